/-! DecimalRows: root -/
/-- the state between two figures of a root -/
def rI (c1 c2 c4 c5 c8 c9 : Int32) (r l : Nat → Int32) (b : Int32) : Prop := (1 ≤ c2.toInt ∧ c2.toInt ≤ 1001) ∧ (0 ≤ c8.toInt ∧ c8.toInt ≤ 2 * c2.toInt) ∧ gO r c2.toNatClampNeg ∧ gO l c8.toNatClampNeg ∧ r 0 ≠ 0 ∧ ((0 ≤ c1.toInt ∧ c1.toInt ≤ 4100) ∧ (0 ≤ c4.toInt ∧ c4.toInt ≤ 1) ∧ (0 ≤ c5.toInt ∧ c5.toInt ≤ 1) ∧ (0 ≤ c9.toInt ∧ c9.toInt ≤ 12200)) ∧ (b.toInt = 0 → ∀ i : Nat, (i : Int) < c8.toInt → l i = 0)
theorem rI.more {x c1 c2 c4 c5 c8 c9 : Int32} {r l : Nat → Int32} {b : Int32} (h : rI c1 c2 c4 c5 c8 c9 r l b) (hex : b.toInt = 0 ∨ x.toInt < c2.toInt) (hs : ∃ i : Nat, (i : Int) < c8.toInt ∧ l i ≠ 0) : x.toInt < c2.toInt ∧ r 0 ≠ 0 := by
  obtain ⟨i, h1, h2⟩ := hs
  rcases hex with e | e
  · exact absurd (h.2.2.2.2.2.2 e i h1) h2
  · exact ⟨e, h.2.2.2.2.1⟩
theorem rI.setb {c1 c2 c4 c5 c8 c9 : Int32} {r l : Nat → Int32} {b b1 : Int32} (h : rI c1 c2 c4 c5 c8 c9 r l b) (hz : b1.toInt = 0 → ∀ i : Nat, (i : Int) < c8.toInt → l i = 0) : rI c1 c2 c4 c5 c8 c9 r l b1 := ⟨h.1, h.2.1, h.2.2.1, h.2.2.2.1, h.2.2.2.2.1, h.2.2.2.2.2.1, hz⟩
theorem g_rf {s : Int} {Q : Prop} (hs : 0 ≤ s) (h0 : s = 0 → Q) (h1 : 0 < s → Q) : Q := by
  by_cases c : s = 0
  · exact h0 c
  · exact h1 (by omega)
theorem g_ff {f t : Nat → Int32} {b m k x : Int32} (hm : m.toInt = b.toInt + k.toInt) (h0 : 0 ≤ k.toInt) (hb : 0 ≤ b.toInt) (ih : 1 ≤ k.toInt → f b.toNatClampNeg = t (1000 * x : Int32).toNatClampNeg) : upd f m.toNatClampNeg (t ((1000 * x) + k : Int32).toNatClampNeg) b.toNatClampNeg = t (1000 * x : Int32).toNatClampNeg := by
  by_cases c : k.toInt = 0
  · have k0 : k = 0 := Int32.toInt_inj.mp (by rw [c]; rfl)
    have m0 : m = b := Int32.toInt_inj.mp (by omega)
    subst k0 m0
    rw [v_eq, Int32.add_zero]
  · have e1 := q_clI (i := m) rfl (by omega)
    have e2 := q_clI (i := b) rfl hb
    rw [v_ne (by omega), ih (by omega)]
theorem g_pE {a b : Int32} (ha : 1 ≤ a.toInt ∧ a.toInt ≤ 1000) (hb : 0 ≤ b.toInt ∧ b.toInt ≤ 1) : ((a + b) - (a + b) / 2 * 2 : Int32).toInt = (a.toInt + b.toInt) % 2 := by
  have e : (a + b : Int32).toInt = a.toInt + b.toInt := q_addI rfl rfl (by omega) (by omega)
  have h1 := s_rem (x := a + b) (b := 2) (by omega) (by decide)
  have e2 : (2 : Int32).toInt = 2 := rfl
  rw [e2, e] at h1
  omega
theorem g_par1 {a b c : Int32} (ha : 1 ≤ a.toInt ∧ a.toInt ≤ 1000) (hb : 0 ≤ b.toInt ∧ b.toInt ≤ 1) (g : ((a + b) - (a + b) / 2 * 2 : Int32) = 1) (hc : c.toInt = 1) : (c.toInt + a.toInt + b.toInt) % 2 = 0 := by
  have h := g_pE ha hb
  rw [g] at h
  have e : (1 : Int32).toInt = 1 := rfl
  omega
theorem g_par0 {a b c : Int32} (ha : 1 ≤ a.toInt ∧ a.toInt ≤ 1000) (hb : 0 ≤ b.toInt ∧ b.toInt ≤ 1) (g : ¬ ((a + b) - (a + b) / 2 * 2 : Int32) = 1) (hc : c.toInt = 0) : (c.toInt + a.toInt + b.toInt) % 2 = 0 := by
  have h := g_pE ha hb
  have g2 := q_neI g
  have e : (1 : Int32).toInt = 1 := rfl
  omega
def Q_DR_root (p : Int32 × Int32 × Int32 × Int64 × Int32 × Int32 × Int32 × Int32 × Int32 × Int32 × Int32 × (Nat → Int32) × (Nat → Int32) × (Nat → Int32) × (Nat → Int32) × (Nat → Int32) × (Nat → Int32) × (Nat → Int32) × (Nat → Int32)) : Prop := gR p.2.2.2.2.2.2.2.2.2.2.2.1 p.2.2.2.2.2.2.2.2.2.2.2.2.1 p.2.2.2.2.2.2.2.2.2.2.2.2.2.1 p.2.2.2.2.2.2.2.2.2.2.2.2.2.2.1
theorem v_ro5 {K_F_DR_root_L181 : Int32 → Int32 → (Nat → Int32) → (Int32 × Int32 × Int32 × Int64 × Int32 × Int32 × Int32 × Int32 × Int32 × Int32 × Int32 × (Nat → Int32) × (Nat → Int32) × (Nat → Int32) × (Nat → Int32) × (Nat → Int32) × (Nat → Int32) × (Nat → Int32) × (Nat → Int32))} {K_F_DR_root_L268 : Int32 → Int32 → Int32 → Int32 → Int64 → Int32 → Int32 → Int32 → Int32 → Int32 → Int32 → Int32 → (Nat → Int32) → (Nat → Int32) → (Nat → Int32) → (Int32 × Int32 × Int32 × Int64 × Int32 × Int32 × Int32 × Int32 × Int32 × Int32 × Int32 × (Nat → Int32) × (Nat → Int32) × (Nat → Int32) × (Nat → Int32) × (Nat → Int32) × (Nat → Int32) × (Nat → Int32) × (Nat → Int32))} {K_F_DR_root_L330 : Int32 → Int32 → Int32 → Int32 → Int64 → Int32 → Int32 → Int32 → Int32 → Int32 → Int32 → Int32 → (Nat → Int32) → (Nat → Int32) → (Nat → Int32) → (Int32 × Int32 × Int32 × Int64 × Int32 × Int32 × Int32 × Int32 × Int32 × Int32 × Int32 × (Nat → Int32) × (Nat → Int32) × (Nat → Int32) × (Nat → Int32) × (Nat → Int32) × (Nat → Int32) × (Nat → Int32) × (Nat → Int32))} {x2 : Int32} {x3 : Int32} {x4 : Int32} {x5 : Int32} {t0_0 : Int32} {t0_1 : Int32} {t0_2 : Int32} {t0_3 : Int64} {t0_4 : Int32} {t0_5 : Int32} {t0_6 : Int32} {t0_7 : Int32} {t0_8 : Int32} {t0_9 : Int32} {t0_10 : Int32} {t1_0 : (Nat → Int32)} {t2_0 : (Nat → Int32)} {t3_0 : (Nat → Int32)} {t4_0 : (Nat → Int32)} {t5_0 : (Nat → Int32)} {t6_0 : (Nat → Int32)} {t7_0 : (Nat → Int32)} {t8_0 : (Nat → Int32)} {lx48 : Int32} {a74 : Int32} {lx76 : Int64} {lx108 : Int32} {a126 : Int32} {lx128 : Int32} {lx150 : Int32} {lx151 : (Nat → Int32)} {lx171 : Int32} {lx172 : Int32} {lx173 : (Nat → Int32)} {lx198 : Int32} {lx199 : (Nat → Int32)} {lx240 : Int32} {lx241 : Int32} {lx242 : Int32} {lx243 : Int32} {lx244 : Int64} {lx245 : Int32} {lx246 : Int32} {lx247 : Int32} {lx248 : Int32} {lx249 : Int32} {lx250 : Int32} {lx251 : Int32} {lx252 : (Nat → Int32)} {lx253 : (Nat → Int32)} {lx254 : (Nat → Int32)} {lx294 : Int64} {lx315 : Int32} {lx316 : Int32} {lx317 : Int32} {lx318 : Int32} {lx319 : Int64} {lx320 : Int32} {lx321 : Int32} {lx322 : Int32} {lx323 : Int32} {lx324 : Int32} {lx325 : Int32} {lx326 : Int32} {lx327 : (Nat → Int32)} {lx328 : (Nat → Int32)} {lx329 : (Nat → Int32)} {K_S_DR_root_L181 : Int32 → Int32 → (Nat → Int32) → Prop} {K_S_DR_root_L268 : Int32 → Int32 → Int32 → Int32 → Int64 → Int32 → Int32 → Int32 → Int32 → Int32 → Int32 → Int32 → (Nat → Int32) → (Nat → Int32) → (Nat → Int32) → Prop} {K_S_DR_root_L330 : Int32 → Int32 → Int32 → Int32 → Int64 → Int32 → Int32 → Int32 → Int32 → Int32 → Int32 → Int32 → (Nat → Int32) → (Nat → Int32) → (Nat → Int32) → Prop} (hR : gR t1_0 t2_0 t3_0 t4_0)(hx2 : 0 ≤ x2.toInt ∧ x2.toInt ≤ 9) (hx3 : 0 ≤ x3.toInt ∧ x3.toInt ≤ 9) (hx4 : 1 ≤ x4.toInt ∧ x4.toInt ≤ 1000)(hI : rI lx317 lx318 lx320 lx321 lx324 lx325 lx327 lx329 lx315)(hex : lx315.toInt = 0 ∨ x4.toInt < lx318.toInt) : ∀ (n : Nat) (lx384 : Int32) (lx385 : Int32), (0 ≤ lx384.toInt ∧ lx384.toInt ≤ lx324.toInt) → (4100 - lx384.toInt < (n : Int)) → (lx385.toInt ≠ 0 → ∃ i : Nat, (i : Int) < lx324.toInt ∧ lx329 i ≠ 0) → (S_DR_root_L418 K_S_DR_root_L181 K_S_DR_root_L268 K_S_DR_root_L330 x2 x3 x4 x5 t0_0 t0_1 t0_2 t0_3 t0_4 t0_5 t0_6 t0_7 t0_8 t0_9 t0_10 t1_0 t2_0 t3_0 t4_0 t5_0 t6_0 t7_0 t8_0 lx48 a74 lx76 lx108 a126 lx128 lx150 lx151 lx171 lx172 lx173 lx198 lx199 lx240 lx241 lx242 lx243 lx244 lx245 lx246 lx247 lx248 lx249 lx250 lx251 lx252 lx253 lx254 lx294 lx315 lx316 lx317 lx318 lx319 lx320 lx321 lx322 lx323 lx324 lx325 lx326 lx327 lx328 lx329 n lx384 lx385) ∧ Q_DR_root (F_DR_root_L418 K_F_DR_root_L181 K_F_DR_root_L268 K_F_DR_root_L330 x2 x3 x4 x5 t0_0 t0_1 t0_2 t0_3 t0_4 t0_5 t0_6 t0_7 t0_8 t0_9 t0_10 t1_0 t2_0 t3_0 t4_0 t5_0 t6_0 t7_0 t8_0 lx48 a74 lx76 lx108 a126 lx128 lx150 lx151 lx171 lx172 lx173 lx198 lx199 lx240 lx241 lx242 lx243 lx244 lx245 lx246 lx247 lx248 lx249 lx250 lx251 lx252 lx253 lx254 lx294 lx315 lx316 lx317 lx318 lx319 lx320 lx321 lx322 lx323 lx324 lx325 lx326 lx327 lx328 lx329 n lx384 lx385) := by
  intro n
  induction n with
  | zero => intro lx384 lx385 h0 hm hmo; obtain ⟨iA, iB, -⟩ := hI; exact absurd (show False by omega) id
  | succ n ih =>
    intro lx384 lx385 h0 hm hmo
    have e0 : (0 : Int32).toInt = 0 := rfl
    have eL0 : (0 : Int64).toInt = 0 := rfl
    have eL1 : (10000 : Int64).toInt = 10000 := rfl
    have eL2 : (-10000 : Int64).toInt = -10000 := rfl
    have eL3 : (1000 : Int64).toInt = 1000 := rfl
    have eL4 : (-1 : Int64).toInt = -1 := rfl
    have eI3 : (1000 : Int32).toInt = 1000 := rfl
    obtain ⟨iA, iB, iC, iD, iE, iF, iG⟩ := id hI
    have e84 := q_clI (i := lx384) rfl h0.1
    rw [S_DR_root_L418.eq_2, F_DR_root_L418.eq_2]
    by_cases g1 : lx324 ≤ lx384
    ·
      rw [if_pos g1, if_pos g1]
      have g1i : lx324.toInt ≤ lx384.toInt := q_leI g1
      have h2 := T_DR_toPrecision (x2 := x4) (x3 := lx76) (x4 := x5) (x5 := x3) (t0_0 := lx316) (t0_1 := lx317) (t0_2 := lx318) (t0_3 := lx319) (t0_4 := lx385) (t0_5 := (0 : Int32)) (t0_6 := lx322) (t0_7 := lx323) (t0_8 := lx324) (t0_9 := lx325) (t0_10 := lx326) (t1_0 := t1_0) (t2_0 := t2_0) (t3_0 := t3_0) (t4_0 := t4_0) (t5_0 := lx327) hR hx3 hx4 ⟨by omega, by omega⟩ iC (fun hne => hI.more hex (hmo hne))
      with_reducible refine v_owe h2.1 ?_
      replace h2 := h2.2
      generalize F_DR_toPrecision x4 lx76 x5 x3 lx316 lx317 lx318 lx319 lx385 (0 : Int32) lx322 lx323 lx324 lx325 lx326 t1_0 t2_0 t3_0 t4_0 lx327 = p457 at *
      unfold Q_DR_toPrecision at h2
      unfold S_DR_root_c471 F_DR_root_c471
      refine ⟨trivial, ?_⟩
      (unfold Q_DR_root; dsimp only; with_reducible assumption)
    ·
      rw [if_neg g1, if_neg g1]
      have g1i : lx384.toInt < lx324.toInt := q_nleI g1
      by_cases g3 : lx385 = (0 : Int32)
      ·
        rw [if_pos g3, if_pos g3]
        have g3i : lx385.toInt = 0 := q_eqI g3
        refine v_cons (by omega) ?_
        by_cases g4 : (lx329 lx384.toNatClampNeg : Int32) = (0 : Int32)
        ·
          rw [if_pos g4, if_pos g4]
          obtain ⟨a5, e6⟩ := q_nm (lx384 + 1 : Int32)
          rw [e6]
          have a5i : a5.toInt = lx384.toInt + 1 := by rw [← e6]; exact q_addI (x := lx384.toInt) (y := 1) rfl (by decide) (by omega) (by omega)
          exact ih _ _ ⟨by omega, by omega⟩ (by omega) (fun h => absurd rfl h)
        ·
          rw [if_neg g4, if_neg g4]
          obtain ⟨a7, e8⟩ := q_nm (lx384 + 1 : Int32)
          rw [e8]
          have a7i : a7.toInt = lx384.toInt + 1 := by rw [← e8]; exact q_addI (x := lx384.toInt) (y := 1) rfl (by decide) (by omega) (by omega)
          exact ih _ _ ⟨by omega, by omega⟩ (by omega) (fun _ => ⟨lx384.toNatClampNeg, by omega, g4⟩)
      ·
        rw [if_neg g3, if_neg g3]
        have g3i : lx385.toInt ≠ 0 := q_neI g3
        obtain ⟨a9, e10⟩ := q_nm (lx384 + 1 : Int32)
        rw [e10]
        have a9i : a9.toInt = lx384.toInt + 1 := by rw [← e10]; exact q_addI (x := lx384.toInt) (y := 1) rfl (by decide) (by omega) (by omega)
        exact ih _ _ ⟨by omega, by omega⟩ (by omega) (fun _ => hmo (by omega))
theorem v_ro4 {K_F_DR_root_L181 : Int32 → Int32 → (Nat → Int32) → (Int32 × Int32 × Int32 × Int64 × Int32 × Int32 × Int32 × Int32 × Int32 × Int32 × Int32 × (Nat → Int32) × (Nat → Int32) × (Nat → Int32) × (Nat → Int32) × (Nat → Int32) × (Nat → Int32) × (Nat → Int32) × (Nat → Int32))} {K_F_DR_root_L268 : Int32 → Int32 → Int32 → Int32 → Int64 → Int32 → Int32 → Int32 → Int32 → Int32 → Int32 → Int32 → (Nat → Int32) → (Nat → Int32) → (Nat → Int32) → (Int32 × Int32 × Int32 × Int64 × Int32 × Int32 × Int32 × Int32 × Int32 × Int32 × Int32 × (Nat → Int32) × (Nat → Int32) × (Nat → Int32) × (Nat → Int32) × (Nat → Int32) × (Nat → Int32) × (Nat → Int32) × (Nat → Int32))} {K_F_DR_root_L330 : Int32 → Int32 → Int32 → Int32 → Int64 → Int32 → Int32 → Int32 → Int32 → Int32 → Int32 → Int32 → (Nat → Int32) → (Nat → Int32) → (Nat → Int32) → (Int32 × Int32 × Int32 × Int64 × Int32 × Int32 × Int32 × Int32 × Int32 × Int32 × Int32 × (Nat → Int32) × (Nat → Int32) × (Nat → Int32) × (Nat → Int32) × (Nat → Int32) × (Nat → Int32) × (Nat → Int32) × (Nat → Int32))} {x2 : Int32} {x3 : Int32} {x4 : Int32} {x5 : Int32} {t0_0 : Int32} {t0_1 : Int32} {t0_2 : Int32} {t0_3 : Int64} {t0_4 : Int32} {t0_5 : Int32} {t0_6 : Int32} {t0_7 : Int32} {t0_8 : Int32} {t0_9 : Int32} {t0_10 : Int32} {t1_0 : (Nat → Int32)} {t2_0 : (Nat → Int32)} {t3_0 : (Nat → Int32)} {t4_0 : (Nat → Int32)} {t5_0 : (Nat → Int32)} {t6_0 : (Nat → Int32)} {t7_0 : (Nat → Int32)} {t8_0 : (Nat → Int32)} {lx48 : Int32} {a74 : Int32} {lx76 : Int64} {lx108 : Int32} {a126 : Int32} {lx128 : Int32} {lx150 : Int32} {lx151 : (Nat → Int32)} {lx171 : Int32} {lx172 : Int32} {lx173 : (Nat → Int32)} {lx198 : Int32} {lx199 : (Nat → Int32)} {lx240 : Int32} {lx241 : Int32} {lx242 : Int32} {lx243 : Int32} {lx244 : Int64} {lx245 : Int32} {lx246 : Int32} {lx247 : Int32} {lx248 : Int32} {lx249 : Int32} {lx250 : Int32} {lx251 : Int32} {lx252 : (Nat → Int32)} {lx253 : (Nat → Int32)} {lx254 : (Nat → Int32)} {lx294 : Int64} {lx315 : Int32} {lx316 : Int32} {lx317 : Int32} {lx318 : Int32} {lx319 : Int64} {lx320 : Int32} {lx321 : Int32} {lx322 : Int32} {lx323 : Int32} {lx324 : Int32} {lx325 : Int32} {lx326 : Int32} {lx327 : (Nat → Int32)} {lx328 : (Nat → Int32)} {lx329 : (Nat → Int32)} {K_S_DR_root_L181 : Int32 → Int32 → (Nat → Int32) → Prop} {K_S_DR_root_L268 : Int32 → Int32 → Int32 → Int32 → Int64 → Int32 → Int32 → Int32 → Int32 → Int32 → Int32 → Int32 → (Nat → Int32) → (Nat → Int32) → (Nat → Int32) → Prop} {K_S_DR_root_L330 : Int32 → Int32 → Int32 → Int32 → Int64 → Int32 → Int32 → Int32 → Int32 → Int32 → Int32 → Int32 → (Nat → Int32) → (Nat → Int32) → (Nat → Int32) → Prop} (hR : gR t1_0 t2_0 t3_0 t4_0)(hx2 : 0 ≤ x2.toInt ∧ x2.toInt ≤ 9) (hx3 : 0 ≤ x3.toInt ∧ x3.toInt ≤ 9) (hx4 : 1 ≤ x4.toInt ∧ x4.toInt ≤ 1000)(hI : rI lx317 lx318 lx320 lx321 lx324 lx325 lx327 lx329 lx315)(hsz : lx318.toInt ≤ x4.toInt)(hK : ∀ (b c0 c1 c2 : Int32) (c3 : Int64) (c4 c5 c6 c7 c8 c9 c10 : Int32) (r u l : Nat → Int32), rI c1 c2 c4 c5 c8 c9 r l b → (b.toInt = 0 ∨ lx318.toInt < c2.toInt) → K_S_DR_root_L330 b c0 c1 c2 c3 c4 c5 c6 c7 c8 c9 c10 r u l ∧ Q_DR_root (K_F_DR_root_L330 b c0 c1 c2 c3 c4 c5 c6 c7 c8 c9 c10 r u l)) : ∀ (n : Nat) (lx513 : Int32) (lx514 : Int32), (0 ≤ lx513.toInt ∧ lx513.toInt ≤ lx324.toInt) → (4100 - lx513.toInt < (n : Int)) → (lx514.toInt = 0 → ∀ i : Nat, (i : Int) < lx513.toInt → lx329 i = 0) → (S_DR_root_L349 K_S_DR_root_L181 K_S_DR_root_L268 K_S_DR_root_L330 x2 x3 x4 x5 t0_0 t0_1 t0_2 t0_3 t0_4 t0_5 t0_6 t0_7 t0_8 t0_9 t0_10 t1_0 t2_0 t3_0 t4_0 t5_0 t6_0 t7_0 t8_0 lx48 a74 lx76 lx108 a126 lx128 lx150 lx151 lx171 lx172 lx173 lx198 lx199 lx240 lx241 lx242 lx243 lx244 lx245 lx246 lx247 lx248 lx249 lx250 lx251 lx252 lx253 lx254 lx294 lx315 lx316 lx317 lx318 lx319 lx320 lx321 lx322 lx323 lx324 lx325 lx326 lx327 lx328 lx329 n lx513 lx514) ∧ Q_DR_root (F_DR_root_L349 K_F_DR_root_L181 K_F_DR_root_L268 K_F_DR_root_L330 x2 x3 x4 x5 t0_0 t0_1 t0_2 t0_3 t0_4 t0_5 t0_6 t0_7 t0_8 t0_9 t0_10 t1_0 t2_0 t3_0 t4_0 t5_0 t6_0 t7_0 t8_0 lx48 a74 lx76 lx108 a126 lx128 lx150 lx151 lx171 lx172 lx173 lx198 lx199 lx240 lx241 lx242 lx243 lx244 lx245 lx246 lx247 lx248 lx249 lx250 lx251 lx252 lx253 lx254 lx294 lx315 lx316 lx317 lx318 lx319 lx320 lx321 lx322 lx323 lx324 lx325 lx326 lx327 lx328 lx329 n lx513 lx514) := by
  intro n
  induction n with
  | zero => intro lx513 lx514 h0 hm hz; obtain ⟨iA, iB, -⟩ := hI; exact absurd (show False by omega) id
  | succ n ih =>
    intro lx513 lx514 h0 hm hz
    have e0 : (0 : Int32).toInt = 0 := rfl
    have eL0 : (0 : Int64).toInt = 0 := rfl
    have eL1 : (10000 : Int64).toInt = 10000 := rfl
    have eL2 : (-10000 : Int64).toInt = -10000 := rfl
    have eL3 : (1000 : Int64).toInt = 1000 := rfl
    have eL4 : (-1 : Int64).toInt = -1 := rfl
    have eI3 : (1000 : Int32).toInt = 1000 := rfl
    obtain ⟨iA, iB, iC, iD, iE, iF, iG⟩ := id hI
    have e13 := q_clI (i := lx513) rfl h0.1
    rw [S_DR_root_L349.eq_2, F_DR_root_L349.eq_2]
    by_cases g1 : lx324 ≤ lx513
    ·
      rw [if_pos g1, if_pos g1]
      have g1i : lx324.toInt ≤ lx513.toInt := q_leI g1
      by_cases g2 : lx514 = (0 : Int32)
      ·
        rw [if_pos g2, if_pos g2]
        have g2i : lx514.toInt = 0 := q_eqI g2
        exact hK _ _ _ _ _ _ _ _ _ _ _ _ _ _ _ (hI.setb (fun _ i hi => hz g2i i (by omega))) (Or.inl g2i)
      ·
        rw [if_neg g2, if_neg g2]
        have g2i : lx514.toInt ≠ 0 := q_neI g2
        have h3 := T_DR_nextRoot (x2 := (0 : Int32)) (x3 := (0 : Int32)) (t0_0 := lx316) (t0_1 := lx317) (t0_2 := lx318) (t0_3 := lx319) (t0_4 := lx320) (t0_5 := lx321) (t0_6 := lx322) (t0_7 := lx323) (t0_8 := lx324) (t0_9 := lx325) (t0_10 := lx326) (t1_0 := lx327) (t2_0 := lx328) (t3_0 := lx329) ⟨by omega, by omega⟩ ⟨by omega, by omega⟩ iC iD (by decide) (by decide)
        with_reducible refine v_owe h3.1 ?_
        replace h3 := h3.2
        generalize F_DR_nextRoot (0 : Int32) (0 : Int32) lx316 lx317 lx318 lx319 lx320 lx321 lx322 lx323 lx324 lx325 lx326 lx327 lx328 lx329 = p579 at *
        unfold Q_DR_nextRoot at h3
        obtain ⟨nrK, nr2, nr8, nrr, nrl, nrf, nrz⟩ := h3
        have nk1 := congrArg Int32.toInt nrK.2.1
        have nk4 := congrArg Int32.toInt nrK.2.2.2.1
        have nk5 := congrArg Int32.toInt nrK.2.2.2.2.1
        have nk9 := congrArg Int32.toInt nrK.2.2.2.2.2.2.1
        unfold S_DR_root_c394 F_DR_root_c394
        refine v_cons (by omega) ?_
        refine v_cons (by omega) ?_
        refine v_cons (by omega) ?_
        refine v_cons (by omega) ?_
        refine v_cons (by omega) ?_
        refine v_cons (by omega) ?_
        refine v_cons (by omega) ?_
        refine v_cons (by omega) ?_
        exact hK _ _ _ _ _ _ _ _ _ _ _ _ _ _ _ ⟨⟨by omega, by omega⟩, ⟨by omega, by omega⟩, nrr, nrl, by rw [nrf (by omega)]; exact iE, ⟨⟨by omega, by omega⟩, ⟨by omega, by omega⟩, ⟨by omega, by omega⟩, ⟨by omega, by omega⟩⟩, fun h => by omega⟩ (Or.inr (by omega))
    ·
      rw [if_neg g1, if_neg g1]
      have g1i : lx513.toInt < lx324.toInt := q_nleI g1
      by_cases g4 : lx514 = (0 : Int32)
      ·
        rw [if_pos g4, if_pos g4]
        have g4i : lx514.toInt = 0 := q_eqI g4
        refine v_cons (by omega) ?_
        by_cases g5 : (lx329 lx513.toNatClampNeg : Int32) = (0 : Int32)
        ·
          rw [if_pos g5, if_pos g5]
          obtain ⟨a6, e7⟩ := q_nm (lx513 + 1 : Int32)
          rw [e7]
          have a6i : a6.toInt = lx513.toInt + 1 := by rw [← e7]; exact q_addI (x := lx513.toInt) (y := 1) rfl (by decide) (by omega) (by omega)
          exact ih _ _ ⟨by omega, by omega⟩ (by omega) (fun _ i hi => by by_cases c : i = lx513.toNatClampNeg; rw [c]; exact g5; exact hz (by omega) i (by omega))
        ·
          rw [if_neg g5, if_neg g5]
          obtain ⟨a8, e9⟩ := q_nm (lx513 + 1 : Int32)
          rw [e9]
          have a8i : a8.toInt = lx513.toInt + 1 := by rw [← e9]; exact q_addI (x := lx513.toInt) (y := 1) rfl (by decide) (by omega) (by omega)
          exact ih _ _ ⟨by omega, by omega⟩ (by omega) (fun h => absurd h (by decide))
      ·
        rw [if_neg g4, if_neg g4]
        have g4i : lx514.toInt ≠ 0 := q_neI g4
        obtain ⟨a10, e11⟩ := q_nm (lx513 + 1 : Int32)
        rw [e11]
        have a10i : a10.toInt = lx513.toInt + 1 := by rw [← e11]; exact q_addI (x := lx513.toInt) (y := 1) rfl (by decide) (by omega) (by omega)
        exact ih _ _ ⟨by omega, by omega⟩ (by omega) (fun h => absurd h (by decide))
theorem v_ro3 {K_F_DR_root_L181 : Int32 → Int32 → (Nat → Int32) → (Int32 × Int32 × Int32 × Int64 × Int32 × Int32 × Int32 × Int32 × Int32 × Int32 × Int32 × (Nat → Int32) × (Nat → Int32) × (Nat → Int32) × (Nat → Int32) × (Nat → Int32) × (Nat → Int32) × (Nat → Int32) × (Nat → Int32))} {K_F_DR_root_L268 : Int32 → Int32 → Int32 → Int32 → Int64 → Int32 → Int32 → Int32 → Int32 → Int32 → Int32 → Int32 → (Nat → Int32) → (Nat → Int32) → (Nat → Int32) → (Int32 × Int32 × Int32 × Int64 × Int32 × Int32 × Int32 × Int32 × Int32 × Int32 × Int32 × (Nat → Int32) × (Nat → Int32) × (Nat → Int32) × (Nat → Int32) × (Nat → Int32) × (Nat → Int32) × (Nat → Int32) × (Nat → Int32))} {x2 : Int32} {x3 : Int32} {x4 : Int32} {x5 : Int32} {t0_0 : Int32} {t0_1 : Int32} {t0_2 : Int32} {t0_3 : Int64} {t0_4 : Int32} {t0_5 : Int32} {t0_6 : Int32} {t0_7 : Int32} {t0_8 : Int32} {t0_9 : Int32} {t0_10 : Int32} {t1_0 : (Nat → Int32)} {t2_0 : (Nat → Int32)} {t3_0 : (Nat → Int32)} {t4_0 : (Nat → Int32)} {t5_0 : (Nat → Int32)} {t6_0 : (Nat → Int32)} {t7_0 : (Nat → Int32)} {t8_0 : (Nat → Int32)} {lx48 : Int32} {a74 : Int32} {lx76 : Int64} {lx108 : Int32} {a126 : Int32} {lx128 : Int32} {lx150 : Int32} {lx151 : (Nat → Int32)} {lx171 : Int32} {lx172 : Int32} {lx173 : (Nat → Int32)} {lx198 : Int32} {lx199 : (Nat → Int32)} {lx240 : Int32} {lx241 : Int32} {lx242 : Int32} {lx243 : Int32} {lx244 : Int64} {lx245 : Int32} {lx246 : Int32} {lx247 : Int32} {lx248 : Int32} {lx249 : Int32} {lx250 : Int32} {lx251 : Int32} {lx252 : (Nat → Int32)} {lx253 : (Nat → Int32)} {lx254 : (Nat → Int32)} {lx294 : Int64} {K_S_DR_root_L181 : Int32 → Int32 → (Nat → Int32) → Prop} {K_S_DR_root_L268 : Int32 → Int32 → Int32 → Int32 → Int64 → Int32 → Int32 → Int32 → Int32 → Int32 → Int32 → Int32 → (Nat → Int32) → (Nat → Int32) → (Nat → Int32) → Prop} (hR : gR t1_0 t2_0 t3_0 t4_0)(hx2 : 0 ≤ x2.toInt ∧ x2.toInt ≤ 9) (hx3 : 0 ≤ x3.toInt ∧ x3.toInt ≤ 9) (hx4 : 1 ≤ x4.toInt ∧ x4.toInt ≤ 1000) : ∀ (n : Nat) (lx315 : Int32) (lx316 : Int32) (lx317 : Int32) (lx318 : Int32) (lx319 : Int64) (lx320 : Int32) (lx321 : Int32) (lx322 : Int32) (lx323 : Int32) (lx324 : Int32) (lx325 : Int32) (lx326 : Int32) (lx327 : (Nat → Int32)) (lx328 : (Nat → Int32)) (lx329 : (Nat → Int32)), (rI lx317 lx318 lx320 lx321 lx324 lx325 lx327 lx329 lx315) → ((lx315.toInt ≠ 0 → 1003 - lx318.toInt < (n : Int)) ∧ 0 < (n : Int)) → (S_DR_root_L330 K_S_DR_root_L181 K_S_DR_root_L268 x2 x3 x4 x5 t0_0 t0_1 t0_2 t0_3 t0_4 t0_5 t0_6 t0_7 t0_8 t0_9 t0_10 t1_0 t2_0 t3_0 t4_0 t5_0 t6_0 t7_0 t8_0 lx48 a74 lx76 lx108 a126 lx128 lx150 lx151 lx171 lx172 lx173 lx198 lx199 lx240 lx241 lx242 lx243 lx244 lx245 lx246 lx247 lx248 lx249 lx250 lx251 lx252 lx253 lx254 lx294 n lx315 lx316 lx317 lx318 lx319 lx320 lx321 lx322 lx323 lx324 lx325 lx326 lx327 lx328 lx329) ∧ Q_DR_root (F_DR_root_L330 K_F_DR_root_L181 K_F_DR_root_L268 x2 x3 x4 x5 t0_0 t0_1 t0_2 t0_3 t0_4 t0_5 t0_6 t0_7 t0_8 t0_9 t0_10 t1_0 t2_0 t3_0 t4_0 t5_0 t6_0 t7_0 t8_0 lx48 a74 lx76 lx108 a126 lx128 lx150 lx151 lx171 lx172 lx173 lx198 lx199 lx240 lx241 lx242 lx243 lx244 lx245 lx246 lx247 lx248 lx249 lx250 lx251 lx252 lx253 lx254 lx294 n lx315 lx316 lx317 lx318 lx319 lx320 lx321 lx322 lx323 lx324 lx325 lx326 lx327 lx328 lx329) := by
  intro n
  induction n with
  | zero => intro lx315 lx316 lx317 lx318 lx319 lx320 lx321 lx322 lx323 lx324 lx325 lx326 lx327 lx328 lx329 hI hm; exact absurd (show False by omega) id
  | succ n ih =>
    intro lx315 lx316 lx317 lx318 lx319 lx320 lx321 lx322 lx323 lx324 lx325 lx326 lx327 lx328 lx329 hI hm
    have e0 : (0 : Int32).toInt = 0 := rfl
    have eL0 : (0 : Int64).toInt = 0 := rfl
    have eL1 : (10000 : Int64).toInt = 10000 := rfl
    have eL2 : (-10000 : Int64).toInt = -10000 := rfl
    have eL3 : (1000 : Int64).toInt = 1000 := rfl
    have eL4 : (-1 : Int64).toInt = -1 := rfl
    have eI3 : (1000 : Int32).toInt = 1000 := rfl
    obtain ⟨iA, iB, iC, iD, iE, iF, iG⟩ := id hI
    rw [S_DR_root_L330.eq_2, F_DR_root_L330.eq_2]
    by_cases g1 : lx315 = (0 : Int32)
    ·
      rw [if_pos g1, if_pos g1]
      have g1i : lx315.toInt = 0 := q_eqI g1
      unfold S_DR_root_J410 F_DR_root_J410
      exact v_ro5 hR hx2 hx3 hx4 hI (Or.inl g1i) _ _ _ ⟨by decide, by omega⟩ (by decide) (fun h => absurd rfl h)
    ·
      rw [if_neg g1, if_neg g1]
      have g1i : lx315.toInt ≠ 0 := q_neI g1
      by_cases g2 : x4 < lx318
      ·
        rw [if_pos g2, if_pos g2]
        have g2i : x4.toInt < lx318.toInt := q_ltI g2
        unfold S_DR_root_J410 F_DR_root_J410
        exact v_ro5 hR hx2 hx3 hx4 hI (Or.inr g2i) _ _ _ ⟨by decide, by omega⟩ (by decide) (fun h => absurd rfl h)
      ·
        rw [if_neg g2, if_neg g2]
        have g2i : lx318.toInt ≤ x4.toInt := q_nltI g2
        exact v_ro4 hR hx2 hx3 hx4 hI (by omega) (fun b c0 c1 c2 c3 c4 c5 c6 c7 c8 c9 c10 r u l q1 q2 => ih _ _ _ _ _ _ _ _ _ _ _ _ _ _ _ q1 ⟨fun hb => by rcases q2 with q | q; exact absurd q hb; omega, by omega⟩) _ _ _ ⟨by decide, by omega⟩ (by decide) (fun _ i hi => by omega)
theorem q_c1 {a : Int32} (h : a.toInt = 1) : a.toNatClampNeg = 1 := by have := q_clI (i := a) rfl (by omega); omega
theorem v_ro2 {K_F_DR_root_L181 : Int32 → Int32 → (Nat → Int32) → (Int32 × Int32 × Int32 × Int64 × Int32 × Int32 × Int32 × Int32 × Int32 × Int32 × Int32 × (Nat → Int32) × (Nat → Int32) × (Nat → Int32) × (Nat → Int32) × (Nat → Int32) × (Nat → Int32) × (Nat → Int32) × (Nat → Int32))} {x2 : Int32} {x3 : Int32} {x4 : Int32} {x5 : Int32} {t0_0 : Int32} {t0_1 : Int32} {t0_2 : Int32} {t0_3 : Int64} {t0_4 : Int32} {t0_5 : Int32} {t0_6 : Int32} {t0_7 : Int32} {t0_8 : Int32} {t0_9 : Int32} {t0_10 : Int32} {t1_0 : (Nat → Int32)} {t2_0 : (Nat → Int32)} {t3_0 : (Nat → Int32)} {t4_0 : (Nat → Int32)} {t5_0 : (Nat → Int32)} {t6_0 : (Nat → Int32)} {t7_0 : (Nat → Int32)} {t8_0 : (Nat → Int32)} {lx48 : Int32} {a74 : Int32} {lx76 : Int64} {lx108 : Int32} {a126 : Int32} {lx128 : Int32} {lx150 : Int32} {lx151 : (Nat → Int32)} {lx171 : Int32} {lx172 : Int32} {lx173 : (Nat → Int32)} {lx198 : Int32} {lx199 : (Nat → Int32)} {K_S_DR_root_L181 : Int32 → Int32 → (Nat → Int32) → Prop} (hR : gR t1_0 t2_0 t3_0 t4_0)(hx2 : 0 ≤ x2.toInt ∧ x2.toInt ≤ 9) (hx3 : 0 ≤ x3.toInt ∧ x3.toInt ≤ 9) (hx4 : 1 ≤ x4.toInt ∧ x4.toInt ≤ 1000)(h198 : (2 ≤ lx198.toInt ∧ lx198.toInt ≤ 1002) ∧ lx198.toInt % 2 = 0) (h199 : gO lx199 lx198.toNatClampNeg) (hnz : lx199 0 ≠ 0 ∨ lx199 1 ≠ 0) : ∀ (n : Nat) (lx240 : Int32) (lx241 : Int32) (lx242 : Int32) (lx243 : Int32) (lx244 : Int64) (lx245 : Int32) (lx246 : Int32) (lx247 : Int32) (lx248 : Int32) (lx249 : Int32) (lx250 : Int32) (lx251 : Int32) (lx252 : (Nat → Int32)) (lx253 : (Nat → Int32)) (lx254 : (Nat → Int32)), (0 ≤ lx240.toInt ∧ lx240.toInt ≤ lx198.toInt ∧ lx240.toInt % 2 = 0) → (12200 - lx240.toInt < (n : Int)) → (2 * lx243.toInt = lx240.toInt) → (0 ≤ lx249.toInt ∧ lx249.toInt ≤ lx240.toInt) → (lx247 = lx198) → (gO lx252 lx243.toNatClampNeg) → (gO lx254 lx249.toNatClampNeg) → (0 < lx243.toInt → lx252 0 ≠ 0) → ((0 ≤ lx242.toInt ∧ lx242.toInt ≤ 4100) ∧ (0 ≤ lx245.toInt ∧ lx245.toInt ≤ 1) ∧ (0 ≤ lx246.toInt ∧ lx246.toInt ≤ 1) ∧ (0 ≤ lx250.toInt ∧ lx250.toInt ≤ 12200)) → (S_DR_root_L268 K_S_DR_root_L181 x2 x3 x4 x5 t0_0 t0_1 t0_2 t0_3 t0_4 t0_5 t0_6 t0_7 t0_8 t0_9 t0_10 t1_0 t2_0 t3_0 t4_0 t5_0 t6_0 t7_0 t8_0 lx48 a74 lx76 lx108 a126 lx128 lx150 lx151 lx171 lx172 lx173 lx198 lx199 n lx240 lx241 lx242 lx243 lx244 lx245 lx246 lx247 lx248 lx249 lx250 lx251 lx252 lx253 lx254) ∧ Q_DR_root (F_DR_root_L268 K_F_DR_root_L181 x2 x3 x4 x5 t0_0 t0_1 t0_2 t0_3 t0_4 t0_5 t0_6 t0_7 t0_8 t0_9 t0_10 t1_0 t2_0 t3_0 t4_0 t5_0 t6_0 t7_0 t8_0 lx48 a74 lx76 lx108 a126 lx128 lx150 lx151 lx171 lx172 lx173 lx198 lx199 n lx240 lx241 lx242 lx243 lx244 lx245 lx246 lx247 lx248 lx249 lx250 lx251 lx252 lx253 lx254) := by
  intro n
  induction n with
  | zero => intro lx240 lx241 lx242 lx243 lx244 lx245 lx246 lx247 lx248 lx249 lx250 lx251 lx252 lx253 lx254 h0 hm h2 h9 h7 hor hol hf hb; exact absurd (show False by omega) id
  | succ n ih =>
    intro lx240 lx241 lx242 lx243 lx244 lx245 lx246 lx247 lx248 lx249 lx250 lx251 lx252 lx253 lx254 h0 hm h2 h9 h7 hor hol hf hb
    have e0 : (0 : Int32).toInt = 0 := rfl
    have eL0 : (0 : Int64).toInt = 0 := rfl
    have eL1 : (10000 : Int64).toInt = 10000 := rfl
    have eL2 : (-10000 : Int64).toInt = -10000 := rfl
    have eL3 : (1000 : Int64).toInt = 1000 := rfl
    have eL4 : (-1 : Int64).toInt = -1 := rfl
    have eI3 : (1000 : Int32).toInt = 1000 := rfl
    have h7i := congrArg Int32.toInt h7
    rw [S_DR_root_L268.eq_2, F_DR_root_L268.eq_2]
    by_cases g1 : lx247 ≤ lx240
    ·
      rw [if_pos g1, if_pos g1]
      have g1i : lx247.toInt ≤ lx240.toInt := q_leI g1
      by_cases g2 : lx108 = (0 : Int32)
      ·
        rw [if_pos g2, if_pos g2]
        have g2i : lx108.toInt = 0 := q_eqI g2
        unfold S_DR_root_J324 F_DR_root_J324
        exact v_ro3 hR hx2 hx3 hx4 1000000 _ _ _ _ _ _ _ _ _ _ _ _ _ _ _ ⟨⟨by omega, by omega⟩, ⟨by omega, by omega⟩, hor, hol, hf (by omega), hb, fun h => absurd h (by decide)⟩ ⟨fun _ => by omega, by decide⟩
      ·
        rw [if_neg g2, if_neg g2]
        have g2i : lx108.toInt ≠ 0 := q_neI g2
        unfold S_DR_root_J324 F_DR_root_J324
        exact v_ro3 hR hx2 hx3 hx4 1000000 _ _ _ _ _ _ _ _ _ _ _ _ _ _ _ ⟨⟨by omega, by omega⟩, ⟨by omega, by omega⟩, hor, hol, hf (by omega), hb, fun h => absurd h (by decide)⟩ ⟨fun _ => by omega, by decide⟩
    ·
      rw [if_neg g1, if_neg g1]
      have g1i : lx240.toInt < lx247.toInt := q_nleI g1
      refine v_cons (by omega) ?_
      obtain ⟨a3, e4⟩ := q_nm (lx240 + 1 : Int32)
      rw [e4]
      have a3i : a3.toInt = lx240.toInt + 1 := by rw [← e4]; exact q_addI (x := lx240.toInt) (y := 1) rfl (by decide) (by omega) (by omega)
      refine v_cons (by omega) ?_
      have h5 := T_DR_nextRoot (x2 := (lx199 lx240.toNatClampNeg : Int32)) (x3 := (lx199 a3.toNatClampNeg : Int32)) (t0_0 := lx241) (t0_1 := lx242) (t0_2 := lx243) (t0_3 := lx244) (t0_4 := lx245) (t0_5 := lx246) (t0_6 := lx247) (t0_7 := lx248) (t0_8 := lx249) (t0_9 := lx250) (t0_10 := lx251) (t1_0 := lx252) (t2_0 := lx253) (t3_0 := lx254) ⟨by omega, by omega⟩ ⟨by omega, by omega⟩ hor hol (g_at9 h199 (by omega) (by omega)) (g_at9 h199 (by omega) (by omega))
      with_reducible refine v_owe h5.1 ?_
      replace h5 := h5.2
      generalize F_DR_nextRoot (lx199 lx240.toNatClampNeg : Int32) (lx199 a3.toNatClampNeg : Int32) lx241 lx242 lx243 lx244 lx245 lx246 lx247 lx248 lx249 lx250 lx251 lx252 lx253 lx254 = p707 at *
      unfold Q_DR_nextRoot at h5
      obtain ⟨nrK, nr2, nr8, nrr, nrl, nrf, nrz⟩ := h5
      have nk1 := congrArg Int32.toInt nrK.2.1
      have nk4 := congrArg Int32.toInt nrK.2.2.2.1
      have nk5 := congrArg Int32.toInt nrK.2.2.2.2.1
      have nk9 := congrArg Int32.toInt nrK.2.2.2.2.2.2.1
      unfold S_DR_root_c294 F_DR_root_c294
      obtain ⟨a6, e7⟩ := q_nm (lx240 + 2 : Int32)
      rw [e7]
      have a6i : a6.toInt = lx240.toInt + 2 := by rw [← e7]; exact q_addI (x := lx240.toInt) (y := 2) rfl (by decide) (by omega) (by omega)
      have e40 := q_clI (i := lx240) rfl (by omega); exact ih _ _ _ _ _ _ _ _ _ _ _ _ _ _ _ ⟨by omega, by omega, by omega⟩ (by omega) (by omega) ⟨by omega, by omega⟩ (nrK.2.2.2.2.2.1.trans h7) nrr nrl (fun _ => g_rf (s := lx243.toInt) (by omega) (fun c => nrz c (by omega) (hnz.imp (fun h => by rw [show lx240.toNatClampNeg = 0 by omega]; exact h) (fun h => by rw [q_c1 (by omega)]; exact h))) (fun c => by rw [nrf c]; exact hf c)) ⟨⟨by omega, by omega⟩, ⟨by omega, by omega⟩, ⟨by omega, by omega⟩, ⟨by omega, by omega⟩⟩
theorem g_nz {f : Nat → Int32} {b v : Int32} (h0 : 0 ≤ b.toInt ∧ b.toInt ≤ 1) (h : f b.toNatClampNeg = v) (hv : v ≠ 0) : f 0 ≠ 0 ∨ f 1 ≠ 0 := by
  have e := q_clI (i := b) rfl h0.1
  by_cases c : b.toInt = 0
  · rw [show b.toNatClampNeg = 0 by omega] at h
    exact Or.inl (by rw [h]; exact hv)
  · rw [show b.toNatClampNeg = 1 by omega] at h
    exact Or.inr (by rw [h]; exact hv)
theorem v_ro1 {x2 : Int32} {x3 : Int32} {x4 : Int32} {x5 : Int32} {t0_0 : Int32} {t0_1 : Int32} {t0_2 : Int32} {t0_3 : Int64} {t0_4 : Int32} {t0_5 : Int32} {t0_6 : Int32} {t0_7 : Int32} {t0_8 : Int32} {t0_9 : Int32} {t0_10 : Int32} {t1_0 : (Nat → Int32)} {t2_0 : (Nat → Int32)} {t3_0 : (Nat → Int32)} {t4_0 : (Nat → Int32)} {t5_0 : (Nat → Int32)} {t6_0 : (Nat → Int32)} {t7_0 : (Nat → Int32)} {t8_0 : (Nat → Int32)} {lx48 : Int32} {a74 : Int32} {lx76 : Int64} {lx108 : Int32} {a126 : Int32} {lx128 : Int32} {lx150 : Int32} {lx151 : (Nat → Int32)} (hR : gR t1_0 t2_0 t3_0 t4_0)(hx2 : 0 ≤ x2.toInt ∧ x2.toInt ≤ 9) (hx3 : 0 ≤ x3.toInt ∧ x3.toInt ≤ 9) (hx4 : 1 ≤ x4.toInt ∧ x4.toInt ≤ 1000)(hT : (0 ≤ t0_1.toInt ∧ t0_1.toInt ≤ 4100) ∧ (0 ≤ t0_4.toInt ∧ t0_4.toInt ≤ 1) ∧ (0 ≤ t0_5.toInt ∧ t0_5.toInt ≤ 1) ∧ (0 ≤ t0_9.toInt ∧ t0_9.toInt ≤ 12200)) (nz2 : t1_0 (1000 * x2 : Int32).toNatClampNeg ≠ 0) (h108 : 0 ≤ lx108.toInt ∧ lx108.toInt ≤ 1) (h150 : 0 ≤ lx150.toInt ∧ lx150.toInt ≤ 1) (hpar : (lx150.toInt + (t2_0 x2.toNatClampNeg).toInt + lx108.toInt) % 2 = 0) : ∀ (n : Nat) (lx171 : Int32) (lx172 : Int32) (lx173 : (Nat → Int32)), (0 ≤ lx171.toInt ∧ lx171.toInt ≤ (t2_0 x2.toNatClampNeg).toInt) → (12200 - lx171.toInt < (n : Int)) → (lx172.toInt = lx150.toInt + lx171.toInt) → (gO lx173 lx172.toNatClampNeg) → (1 ≤ lx171.toInt → lx173 lx150.toNatClampNeg = t1_0 (1000 * x2 : Int32).toNatClampNeg) → (S_DR_root_L181 x2 x3 x4 x5 t0_0 t0_1 t0_2 t0_3 t0_4 t0_5 t0_6 t0_7 t0_8 t0_9 t0_10 t1_0 t2_0 t3_0 t4_0 t5_0 t6_0 t7_0 t8_0 lx48 a74 lx76 lx108 a126 lx128 lx150 lx151 n lx171 lx172 lx173) ∧ Q_DR_root (F_DR_root_L181 x2 x3 x4 x5 t0_0 t0_1 t0_2 t0_3 t0_4 t0_5 t0_6 t0_7 t0_8 t0_9 t0_10 t1_0 t2_0 t3_0 t4_0 t5_0 t6_0 t7_0 t8_0 lx48 a74 lx76 lx108 a126 lx128 lx150 lx151 n lx171 lx172 lx173) := by
  intro n
  induction n with
  | zero => intro lx171 lx172 lx173 h0 hm h1 ho hf; have hmn := (gR.at hR hx2).1; exact absurd (show False by omega) id
  | succ n ih =>
    intro lx171 lx172 lx173 h0 hm h1 ho hf
    have e0 : (0 : Int32).toInt = 0 := rfl
    have eL0 : (0 : Int64).toInt = 0 := rfl
    have eL1 : (10000 : Int64).toInt = 10000 := rfl
    have eL2 : (-10000 : Int64).toInt = -10000 := rfl
    have eL3 : (1000 : Int64).toInt = 1000 := rfl
    have eL4 : (-1 : Int64).toInt = -1 := rfl
    have eI3 : (1000 : Int32).toInt = 1000 := rfl
    have hmn := (gR.at hR hx2).1
    rw [S_DR_root_L181.eq_2, F_DR_root_L181.eq_2]
    by_cases g1 : (t2_0 x2.toNatClampNeg : Int32) ≤ lx171
    ·
      rw [if_pos g1, if_pos g1]
      have g1i := q_leI g1
      by_cases g2 : lx108 = (0 : Int32)
      ·
        rw [if_pos g2, if_pos g2]
        have g2i : lx108.toInt = 0 := q_eqI g2
        unfold S_DR_root_J255 F_DR_root_J255
        exact v_ro2 hR hx2 hx3 hx4 ⟨⟨by omega, by omega⟩, by omega⟩ ho (g_nz h150 (hf (by omega)) nz2) _ _ _ _ _ _ _ _ _ _ _ _ _ _ _ _ ⟨by decide, by omega, by decide⟩ (by decide) (by decide) (by decide) rfl (fun i hi => absurd hi (Nat.not_lt_zero _)) (fun i hi => absurd hi (Nat.not_lt_zero _)) (fun h => absurd h (by decide)) hT
      ·
        rw [if_neg g2, if_neg g2]
        have g2i : lx108.toInt ≠ 0 := q_neI g2
        refine v_cons (by omega) ?_
        unfold S_DR_root_J255 F_DR_root_J255
        obtain ⟨a3, e4⟩ := q_nm (lx172 + 1 : Int32)
        rw [e4]
        have a3i : a3.toInt = lx172.toInt + 1 := by rw [← e4]; exact q_addI (x := lx172.toInt) (y := 1) rfl (by decide) (by omega) (by omega)
        exact v_ro2 hR hx2 hx3 hx4 ⟨⟨by omega, by omega⟩, by omega⟩ (g_apd ho (by omega) (by omega) (by decide)) (g_nz h150 (by have e1 := q_clI (i := lx172) rfl (by omega); have e2 := q_clI (i := lx150) rfl (by omega); rw [v_ne (by omega)]; exact hf (by omega)) nz2) _ _ _ _ _ _ _ _ _ _ _ _ _ _ _ _ ⟨by decide, by omega, by decide⟩ (by decide) (by decide) (by decide) rfl (fun i hi => absurd hi (Nat.not_lt_zero _)) (fun i hi => absurd hi (Nat.not_lt_zero _)) (fun h => absurd h (by decide)) hT
    ·
      rw [if_neg g1, if_neg g1]
      have g1i := q_nleI g1
      refine v_cons (by have := (g_ix (x := x2) (k := lx171) hx2 ⟨by omega, by omega⟩).1; omega) ?_
      refine v_cons (by omega) ?_
      obtain ⟨a5, e6⟩ := q_nm (lx171 + 1 : Int32)
      rw [e6]
      have a5i : a5.toInt = lx171.toInt + 1 := by rw [← e6]; exact q_addI (x := lx171.toInt) (y := 1) rfl (by decide) (by omega) (by omega)
      obtain ⟨a7, e8⟩ := q_nm (lx172 + 1 : Int32)
      rw [e8]
      have a7i : a7.toInt = lx172.toInt + 1 := by rw [← e8]; exact q_addI (x := lx172.toInt) (y := 1) rfl (by decide) (by omega) (by omega)
      exact ih _ _ _ ⟨by omega, by omega⟩ (by omega) (by omega) (g_apd ho (by omega) (by omega) (g_kx hR.1 hx2 (by omega) (by omega))) (fun _ => g_ff h1 h0.1 h150.1 hf)
theorem T_DR_root {x2 : Int32} {x3 : Int32} {x4 : Int32} {x5 : Int32} {t0_0 : Int32} {t0_1 : Int32} {t0_2 : Int32} {t0_3 : Int64} {t0_4 : Int32} {t0_5 : Int32} {t0_6 : Int32} {t0_7 : Int32} {t0_8 : Int32} {t0_9 : Int32} {t0_10 : Int32} {t1_0 : (Nat → Int32)} {t2_0 : (Nat → Int32)} {t3_0 : (Nat → Int32)} {t4_0 : (Nat → Int32)} {t5_0 : (Nat → Int32)} {t6_0 : (Nat → Int32)} {t7_0 : (Nat → Int32)} {t8_0 : (Nat → Int32)} (hR : gR t1_0 t2_0 t3_0 t4_0)(hT : (0 ≤ t0_1.toInt ∧ t0_1.toInt ≤ 4100) ∧ (0 ≤ t0_4.toInt ∧ t0_4.toInt ≤ 1) ∧ (0 ≤ t0_5.toInt ∧ t0_5.toInt ≤ 1) ∧ (0 ≤ t0_9.toInt ∧ t0_9.toInt ≤ 12200)) : (S_DR_root x2 x3 x4 x5 t0_0 t0_1 t0_2 t0_3 t0_4 t0_5 t0_6 t0_7 t0_8 t0_9 t0_10 t1_0 t2_0 t3_0 t4_0 t5_0 t6_0 t7_0 t8_0) ∧ Q_DR_root (F_DR_root x2 x3 x4 x5 t0_0 t0_1 t0_2 t0_3 t0_4 t0_5 t0_6 t0_7 t0_8 t0_9 t0_10 t1_0 t2_0 t3_0 t4_0 t5_0 t6_0 t7_0 t8_0) := by
  have e0 : (0 : Int32).toInt = 0 := rfl
  have eL0 : (0 : Int64).toInt = 0 := rfl
  have eL1 : (10000 : Int64).toInt = 10000 := rfl
  have eL2 : (-10000 : Int64).toInt = -10000 := rfl
  have eL3 : (1000 : Int64).toInt = 1000 := rfl
  have eL4 : (-1 : Int64).toInt = -1 := rfl
  have eI3 : (1000 : Int32).toInt = 1000 := rfl
  unfold S_DR_root F_DR_root
  by_cases g1 : ((F_DR_no x2) : Int32) = (0 : Int32)
  ·
    rw [if_pos g1, if_pos g1]
    have g1r := g_no g1
    by_cases g2 : ((F_DR_no x3) : Int32) = (0 : Int32)
    ·
      rw [if_pos g2, if_pos g2]
      have g2r := g_no g2
      by_cases g3 : ((F_DR_noMode x5) : Int32) = (0 : Int32)
      ·
        rw [if_pos g3, if_pos g3]
        by_cases g4 : x4 < (1 : Int32)
        ·
          rw [if_pos g4, if_pos g4]
          have g4i : x4.toInt < 1 := q_ltI g4
          unfold S_DR_root_J35 F_DR_root_J35
          unfold S_DR_root_J53 F_DR_root_J53
          have g5 : ¬ ((1 : Int32) ≤ (0 : Int32)) := (by decide)
          rw [if_neg g5, if_neg g5]
          refine ⟨trivial, ?_⟩
          (unfold Q_DR_root; dsimp only; with_reducible assumption)
        ·
          rw [if_neg g4, if_neg g4]
          have g4i : 1 ≤ x4.toInt := q_nltI g4
          by_cases g6 : x4 ≤ (1000 : Int32)
          ·
            rw [if_pos g6, if_pos g6]
            have g6i : x4.toInt ≤ 1000 := q_leI g6
            refine v_cons (by omega) ?_
            refine v_cons (by omega) ?_
            by_cases g7 : (t3_0 x2.toNatClampNeg : Int32) = (0 : Int32)
            ·
              rw [if_pos g7, if_pos g7]
              unfold S_DR_root_J53 F_DR_root_J53
              have g8 : ((0 : Int32) ≤ (0 : Int32)) := (by decide)
              rw [if_pos g8, if_pos g8]
              refine v_cons (by omega) ?_
              refine v_cons (by omega) ?_
              by_cases g9 : (t4_0 x2.toNatClampNeg : Int32) < (0 : Int32)
              ·
                rw [if_pos g9, if_pos g9]
                unfold S_DR_root_J98 F_DR_root_J98
                have h10 := R_dz (x2 := x2) (t0_0 := (0 : Int32)) (t0_1 := t0_1) (t0_2 := t0_2) (t0_3 := t0_3) (t0_4 := t0_4) (t0_5 := t0_5) (t0_6 := t0_6) (t0_7 := t0_7) (t0_8 := t0_8) (t0_9 := t0_9) (t0_10 := (2 : Int32)) (t1_0 := t1_0) (by with_reducible assumption)
                have h10z := h10.2
                with_reducible refine v_owe h10.1 ?_
                by_cases g11 : ((F_DR_isZero x2 (0 : Int32) t0_1 t0_2 t0_3 t0_4 t0_5 t0_6 t0_7 t0_8 t0_9 (2 : Int32) t1_0) : Int32) = (0 : Int32)
                ·
                  rw [if_pos g11, if_pos g11]
                  have nz2 := u_if g11 (by with_reducible assumption)
                  have hmn := (gR.at hR (by with_reducible assumption : 0 ≤ x2.toInt ∧ x2.toInt ≤ 9)).1
                  by_cases g12 : ((t4_0 x2.toNatClampNeg : Int32) - (t4_0 x2.toNatClampNeg : Int32) / 2 * 2 : Int32) = (0 : Int32)
                  ·
                    rw [if_pos g12, if_pos g12]
                    unfold S_DR_root_J141 F_DR_root_J141
                    have g13 : ((0 : Int32) = (0 : Int32)) := (by decide)
                    rw [if_pos g13, if_pos g13]
                    unfold S_DR_root_J159 F_DR_root_J159
                    by_cases g14 : (((t2_0 x2.toNatClampNeg : Int32) + (0 : Int32) : Int32) - ((t2_0 x2.toNatClampNeg : Int32) + (0 : Int32) : Int32) / 2 * 2 : Int32) = (1 : Int32)
                    ·
                      rw [if_pos g14, if_pos g14]
                      have par := fun hc => g_par1 (c := 1) hmn (by decide) g14 hc
                      unfold S_DR_root_J178 F_DR_root_J178
                      exact v_ro1 hR (by with_reducible assumption) (by with_reducible assumption) ⟨by omega, by omega⟩ hT nz2 (by decide) (by decide) (par (by decide)) _ _ _ _ ⟨by decide, by omega⟩ (by decide) (by decide) (by first | exact g_one | exact fun i hi => absurd hi (Nat.not_lt_zero _)) (fun h => absurd h (by decide))
                    ·
                      rw [if_neg g14, if_neg g14]
                      have par := fun hc => g_par0 (c := 0) hmn (by decide) g14 hc
                      unfold S_DR_root_J178 F_DR_root_J178
                      exact v_ro1 hR (by with_reducible assumption) (by with_reducible assumption) ⟨by omega, by omega⟩ hT nz2 (by decide) (by decide) (par (by decide)) _ _ _ _ ⟨by decide, by omega⟩ (by decide) (by decide) (by first | exact g_one | exact fun i hi => absurd hi (Nat.not_lt_zero _)) (fun h => absurd h (by decide))
                  ·
                    rw [if_neg g12, if_neg g12]
                    unfold S_DR_root_J141 F_DR_root_J141
                    have g15 : ¬ ((1 : Int32) = (0 : Int32)) := (by decide)
                    rw [if_neg g15, if_neg g15]
                    unfold S_DR_root_J159 F_DR_root_J159
                    by_cases g16 : (((t2_0 x2.toNatClampNeg : Int32) + (1 : Int32) : Int32) - ((t2_0 x2.toNatClampNeg : Int32) + (1 : Int32) : Int32) / 2 * 2 : Int32) = (1 : Int32)
                    ·
                      rw [if_pos g16, if_pos g16]
                      have par := fun hc => g_par1 (c := 1) hmn (by decide) g16 hc
                      unfold S_DR_root_J178 F_DR_root_J178
                      exact v_ro1 hR (by with_reducible assumption) (by with_reducible assumption) ⟨by omega, by omega⟩ hT nz2 (by decide) (by decide) (par (by decide)) _ _ _ _ ⟨by decide, by omega⟩ (by decide) (by decide) (by first | exact g_one | exact fun i hi => absurd hi (Nat.not_lt_zero _)) (fun h => absurd h (by decide))
                    ·
                      rw [if_neg g16, if_neg g16]
                      have par := fun hc => g_par0 (c := 0) hmn (by decide) g16 hc
                      unfold S_DR_root_J178 F_DR_root_J178
                      exact v_ro1 hR (by with_reducible assumption) (by with_reducible assumption) ⟨by omega, by omega⟩ hT nz2 (by decide) (by decide) (par (by decide)) _ _ _ _ ⟨by decide, by omega⟩ (by decide) (by decide) (by first | exact g_one | exact fun i hi => absurd hi (Nat.not_lt_zero _)) (fun h => absurd h (by decide))
                ·
                  rw [if_neg g11, if_neg g11]
                  have h17 := T_DR_load (x2 := x2) (t0_0 := (0 : Int32)) (t0_1 := t0_1) (t0_2 := t0_2) (t0_3 := t0_3) (t0_4 := t0_4) (t0_5 := t0_5) (t0_6 := t0_6) (t0_7 := t0_7) (t0_8 := t0_8) (t0_9 := t0_9) (t0_10 := (2 : Int32)) (t1_0 := t1_0) (t2_0 := t2_0) (t3_0 := t3_0) (t4_0 := t4_0) (t5_0 := t5_0) (by with_reducible assumption) (by with_reducible assumption)
                  with_reducible refine v_owe h17.1 ?_
                  replace h17 := h17.2
                  generalize F_DR_load x2 (0 : Int32) t0_1 t0_2 t0_3 t0_4 t0_5 t0_6 t0_7 t0_8 t0_9 (2 : Int32) t1_0 t2_0 t3_0 t4_0 t5_0 = p825 at *
                  unfold Q_DR_load at h17
                  obtain ⟨h171, h17g, h173, h174, h175, h176, h177⟩ := h17
                  have h174i := congrArg Int32.toInt h174
                  unfold S_DR_root_c110 F_DR_root_c110
                  have h18 := T_DR_toPrecision (x2 := x4) (x3 := ((-((1 - (t4_0 x2.toNatClampNeg : Int32) : Int32) / 2 : Int32) : Int32).toInt64 : Int64)) (x4 := x5) (x5 := x3) (t0_0 := (p825.1 : Int32)) (t0_1 := (p825.2.1 : Int32)) (t0_2 := (p825.2.2.1 : Int32)) (t0_3 := (p825.2.2.2.1 : Int64)) (t0_4 := (p825.2.2.2.2.1 : Int32)) (t0_5 := (p825.2.2.2.2.2.1 : Int32)) (t0_6 := (p825.2.2.2.2.2.2.1 : Int32)) (t0_7 := (p825.2.2.2.2.2.2.2.1 : Int32)) (t0_8 := (p825.2.2.2.2.2.2.2.2.1 : Int32)) (t0_9 := (p825.2.2.2.2.2.2.2.2.2.1 : Int32)) (t0_10 := (p825.2.2.2.2.2.2.2.2.2.2.1 : Int32)) (t1_0 := t1_0) (t2_0 := t2_0) (t3_0 := t3_0) (t4_0 := t4_0) (t5_0 := (p825.2.2.2.2.2.2.2.2.2.2.2 : (Nat → Int32))) (by with_reducible assumption) (by with_reducible assumption) ⟨by omega, by omega⟩ ⟨by omega, by omega⟩ (by with_reducible assumption) (fun hne => by omega)
                  with_reducible refine v_owe h18.1 ?_
                  replace h18 := h18.2
                  generalize F_DR_toPrecision x4 ((-((1 - (t4_0 x2.toNatClampNeg : Int32) : Int32) / 2 : Int32) : Int32).toInt64 : Int64) x5 x3 (p825.1 : Int32) (p825.2.1 : Int32) (p825.2.2.1 : Int32) (p825.2.2.2.1 : Int64) (p825.2.2.2.2.1 : Int32) (p825.2.2.2.2.2.1 : Int32) (p825.2.2.2.2.2.2.1 : Int32) (p825.2.2.2.2.2.2.2.1 : Int32) (p825.2.2.2.2.2.2.2.2.1 : Int32) (p825.2.2.2.2.2.2.2.2.2.1 : Int32) (p825.2.2.2.2.2.2.2.2.2.2.1 : Int32) t1_0 t2_0 t3_0 t4_0 (p825.2.2.2.2.2.2.2.2.2.2.2 : (Nat → Int32)) = p891 at *
                  unfold Q_DR_toPrecision at h18
                  unfold S_DR_root_c120 F_DR_root_c120
                  refine ⟨trivial, ?_⟩
                  (unfold Q_DR_root; dsimp only; with_reducible assumption)
              ·
                rw [if_neg g9, if_neg g9]
                unfold S_DR_root_J98 F_DR_root_J98
                have h19 := R_dz (x2 := x2) (t0_0 := (0 : Int32)) (t0_1 := t0_1) (t0_2 := t0_2) (t0_3 := t0_3) (t0_4 := t0_4) (t0_5 := t0_5) (t0_6 := t0_6) (t0_7 := t0_7) (t0_8 := t0_8) (t0_9 := t0_9) (t0_10 := (2 : Int32)) (t1_0 := t1_0) (by with_reducible assumption)
                have h19z := h19.2
                with_reducible refine v_owe h19.1 ?_
                by_cases g20 : ((F_DR_isZero x2 (0 : Int32) t0_1 t0_2 t0_3 t0_4 t0_5 t0_6 t0_7 t0_8 t0_9 (2 : Int32) t1_0) : Int32) = (0 : Int32)
                ·
                  rw [if_pos g20, if_pos g20]
                  have nz2 := u_if g20 (by with_reducible assumption)
                  have hmn := (gR.at hR (by with_reducible assumption : 0 ≤ x2.toInt ∧ x2.toInt ≤ 9)).1
                  by_cases g21 : ((t4_0 x2.toNatClampNeg : Int32) - (t4_0 x2.toNatClampNeg : Int32) / 2 * 2 : Int32) = (0 : Int32)
                  ·
                    rw [if_pos g21, if_pos g21]
                    unfold S_DR_root_J141 F_DR_root_J141
                    have g22 : ((0 : Int32) = (0 : Int32)) := (by decide)
                    rw [if_pos g22, if_pos g22]
                    unfold S_DR_root_J159 F_DR_root_J159
                    by_cases g23 : (((t2_0 x2.toNatClampNeg : Int32) + (0 : Int32) : Int32) - ((t2_0 x2.toNatClampNeg : Int32) + (0 : Int32) : Int32) / 2 * 2 : Int32) = (1 : Int32)
                    ·
                      rw [if_pos g23, if_pos g23]
                      have par := fun hc => g_par1 (c := 1) hmn (by decide) g23 hc
                      unfold S_DR_root_J178 F_DR_root_J178
                      exact v_ro1 hR (by with_reducible assumption) (by with_reducible assumption) ⟨by omega, by omega⟩ hT nz2 (by decide) (by decide) (par (by decide)) _ _ _ _ ⟨by decide, by omega⟩ (by decide) (by decide) (by first | exact g_one | exact fun i hi => absurd hi (Nat.not_lt_zero _)) (fun h => absurd h (by decide))
                    ·
                      rw [if_neg g23, if_neg g23]
                      have par := fun hc => g_par0 (c := 0) hmn (by decide) g23 hc
                      unfold S_DR_root_J178 F_DR_root_J178
                      exact v_ro1 hR (by with_reducible assumption) (by with_reducible assumption) ⟨by omega, by omega⟩ hT nz2 (by decide) (by decide) (par (by decide)) _ _ _ _ ⟨by decide, by omega⟩ (by decide) (by decide) (by first | exact g_one | exact fun i hi => absurd hi (Nat.not_lt_zero _)) (fun h => absurd h (by decide))
                  ·
                    rw [if_neg g21, if_neg g21]
                    unfold S_DR_root_J141 F_DR_root_J141
                    have g24 : ¬ ((1 : Int32) = (0 : Int32)) := (by decide)
                    rw [if_neg g24, if_neg g24]
                    unfold S_DR_root_J159 F_DR_root_J159
                    by_cases g25 : (((t2_0 x2.toNatClampNeg : Int32) + (1 : Int32) : Int32) - ((t2_0 x2.toNatClampNeg : Int32) + (1 : Int32) : Int32) / 2 * 2 : Int32) = (1 : Int32)
                    ·
                      rw [if_pos g25, if_pos g25]
                      have par := fun hc => g_par1 (c := 1) hmn (by decide) g25 hc
                      unfold S_DR_root_J178 F_DR_root_J178
                      exact v_ro1 hR (by with_reducible assumption) (by with_reducible assumption) ⟨by omega, by omega⟩ hT nz2 (by decide) (by decide) (par (by decide)) _ _ _ _ ⟨by decide, by omega⟩ (by decide) (by decide) (by first | exact g_one | exact fun i hi => absurd hi (Nat.not_lt_zero _)) (fun h => absurd h (by decide))
                    ·
                      rw [if_neg g25, if_neg g25]
                      have par := fun hc => g_par0 (c := 0) hmn (by decide) g25 hc
                      unfold S_DR_root_J178 F_DR_root_J178
                      exact v_ro1 hR (by with_reducible assumption) (by with_reducible assumption) ⟨by omega, by omega⟩ hT nz2 (by decide) (by decide) (par (by decide)) _ _ _ _ ⟨by decide, by omega⟩ (by decide) (by decide) (by first | exact g_one | exact fun i hi => absurd hi (Nat.not_lt_zero _)) (fun h => absurd h (by decide))
                ·
                  rw [if_neg g20, if_neg g20]
                  have h26 := T_DR_load (x2 := x2) (t0_0 := (0 : Int32)) (t0_1 := t0_1) (t0_2 := t0_2) (t0_3 := t0_3) (t0_4 := t0_4) (t0_5 := t0_5) (t0_6 := t0_6) (t0_7 := t0_7) (t0_8 := t0_8) (t0_9 := t0_9) (t0_10 := (2 : Int32)) (t1_0 := t1_0) (t2_0 := t2_0) (t3_0 := t3_0) (t4_0 := t4_0) (t5_0 := t5_0) (by with_reducible assumption) (by with_reducible assumption)
                  with_reducible refine v_owe h26.1 ?_
                  replace h26 := h26.2
                  generalize F_DR_load x2 (0 : Int32) t0_1 t0_2 t0_3 t0_4 t0_5 t0_6 t0_7 t0_8 t0_9 (2 : Int32) t1_0 t2_0 t3_0 t4_0 t5_0 = p825 at *
                  unfold Q_DR_load at h26
                  obtain ⟨h261, h26g, h263, h264, h265, h266, h267⟩ := h26
                  have h264i := congrArg Int32.toInt h264
                  unfold S_DR_root_c110 F_DR_root_c110
                  have h27 := T_DR_toPrecision (x2 := x4) (x3 := (((t4_0 x2.toNatClampNeg : Int32) / 2 : Int32).toInt64 : Int64)) (x4 := x5) (x5 := x3) (t0_0 := (p825.1 : Int32)) (t0_1 := (p825.2.1 : Int32)) (t0_2 := (p825.2.2.1 : Int32)) (t0_3 := (p825.2.2.2.1 : Int64)) (t0_4 := (p825.2.2.2.2.1 : Int32)) (t0_5 := (p825.2.2.2.2.2.1 : Int32)) (t0_6 := (p825.2.2.2.2.2.2.1 : Int32)) (t0_7 := (p825.2.2.2.2.2.2.2.1 : Int32)) (t0_8 := (p825.2.2.2.2.2.2.2.2.1 : Int32)) (t0_9 := (p825.2.2.2.2.2.2.2.2.2.1 : Int32)) (t0_10 := (p825.2.2.2.2.2.2.2.2.2.2.1 : Int32)) (t1_0 := t1_0) (t2_0 := t2_0) (t3_0 := t3_0) (t4_0 := t4_0) (t5_0 := (p825.2.2.2.2.2.2.2.2.2.2.2 : (Nat → Int32))) (by with_reducible assumption) (by with_reducible assumption) ⟨by omega, by omega⟩ ⟨by omega, by omega⟩ (by with_reducible assumption) (fun hne => by omega)
                  with_reducible refine v_owe h27.1 ?_
                  replace h27 := h27.2
                  generalize F_DR_toPrecision x4 (((t4_0 x2.toNatClampNeg : Int32) / 2 : Int32).toInt64 : Int64) x5 x3 (p825.1 : Int32) (p825.2.1 : Int32) (p825.2.2.1 : Int32) (p825.2.2.2.1 : Int64) (p825.2.2.2.2.1 : Int32) (p825.2.2.2.2.2.1 : Int32) (p825.2.2.2.2.2.2.1 : Int32) (p825.2.2.2.2.2.2.2.1 : Int32) (p825.2.2.2.2.2.2.2.2.1 : Int32) (p825.2.2.2.2.2.2.2.2.2.1 : Int32) (p825.2.2.2.2.2.2.2.2.2.2.1 : Int32) t1_0 t2_0 t3_0 t4_0 (p825.2.2.2.2.2.2.2.2.2.2.2 : (Nat → Int32)) = p891 at *
                  unfold Q_DR_toPrecision at h27
                  unfold S_DR_root_c120 F_DR_root_c120
                  refine ⟨trivial, ?_⟩
                  (unfold Q_DR_root; dsimp only; with_reducible assumption)
            ·
              rw [if_neg g7, if_neg g7]
              unfold S_DR_root_J53 F_DR_root_J53
              have g28 : ¬ ((2 : Int32) ≤ (0 : Int32)) := (by decide)
              rw [if_neg g28, if_neg g28]
              refine ⟨trivial, ?_⟩
              (unfold Q_DR_root; dsimp only; with_reducible assumption)
          ·
            rw [if_neg g6, if_neg g6]
            have g6i : 1000 < x4.toInt := q_nleI g6
            unfold S_DR_root_J35 F_DR_root_J35
            unfold S_DR_root_J53 F_DR_root_J53
            have g29 : ¬ ((1 : Int32) ≤ (0 : Int32)) := (by decide)
            rw [if_neg g29, if_neg g29]
            refine ⟨trivial, ?_⟩
            (unfold Q_DR_root; dsimp only; with_reducible assumption)
      ·
        rw [if_neg g3, if_neg g3]
        unfold S_DR_root_J35 F_DR_root_J35
        unfold S_DR_root_J53 F_DR_root_J53
        have g30 : ¬ ((1 : Int32) ≤ (0 : Int32)) := (by decide)
        rw [if_neg g30, if_neg g30]
        refine ⟨trivial, ?_⟩
        (unfold Q_DR_root; dsimp only; with_reducible assumption)
    ·
      rw [if_neg g2, if_neg g2]
      unfold S_DR_root_J35 F_DR_root_J35
      unfold S_DR_root_J53 F_DR_root_J53
      have g31 : ¬ ((1 : Int32) ≤ (0 : Int32)) := (by decide)
      rw [if_neg g31, if_neg g31]
      refine ⟨trivial, ?_⟩
      (unfold Q_DR_root; dsimp only; with_reducible assumption)
  ·
    rw [if_neg g1, if_neg g1]
    unfold S_DR_root_J35 F_DR_root_J35
    unfold S_DR_root_J53 F_DR_root_J53
    have g32 : ¬ ((1 : Int32) ≤ (0 : Int32)) := (by decide)
    rw [if_neg g32, if_neg g32]
    refine ⟨trivial, ?_⟩
    (unfold Q_DR_root; dsimp only; with_reducible assumption)

/-! FloatRows, exactly -/
theorem d_17_3_0 : decode prog_17_method_3_code 0 = .ok (.iload_n 2, 1) := by decide +kernel
theorem d_17_3_1 : decode prog_17_method_3_code 1 = .ok (.ifCond .eq 16, 3) := by decide +kernel
theorem d_17_3_17 : decode prog_17_method_3_code 17 = .ok (.iconst 0, 1) := by decide +kernel
theorem d_17_3_18 : decode prog_17_method_3_code 18 = .ok (.ireturn, 1) := by decide +kernel
theorem d_17_3_4 : decode prog_17_method_3_code 4 = .ok (.lload_n 0, 1) := by decide +kernel
theorem d_17_3_5 : decode prog_17_method_3_code 5 = .ok (.bipush 32, 2) := by decide +kernel
theorem d_17_3_7 : decode prog_17_method_3_code 7 = .ok (.lushr, 1) := by decide +kernel
theorem d_17_3_8 : decode prog_17_method_3_code 8 = .ok (.lconst 0, 1) := by decide +kernel
theorem d_17_3_9 : decode prog_17_method_3_code 9 = .ok (.lcmp, 1) := by decide +kernel
theorem d_17_3_10 : decode prog_17_method_3_code 10 = .ok (.ifCond .eq 7, 3) := by decide +kernel
theorem d_17_3_13 : decode prog_17_method_3_code 13 = .ok (.iconst 1, 1) := by decide +kernel
theorem d_17_3_14 : decode prog_17_method_3_code 14 = .ok (.goto 4, 3) := by decide +kernel
def y_FR_isWrong : MethodName := ⟨"NumberHouseModel$FloatRows", "isWrong", "(JZ)Z"⟩
def F_FR_isWrong (x1 : Int64) (x2 : Int32) : Int32 := if x2 = (0 : Int32) then ((0 : Int32)) else (if (lg_cmp ((x1.toUInt64 >>> ((32 : Int32).toInt64.toUInt64 &&& Int64.toUInt64 63)).toInt64 : Int64) 0 : Int32) = (0 : Int32) then ((0 : Int32)) else ((1 : Int32)))
set_option maxRecDepth 100000 in
set_option maxHeartbeats 4000000 in
theorem X_FR_isWrong (l : Launch) (D : va_G) (g : Nat → ClassId) (q : Nat → Nat) (ws : va_W) (x1 : Int64) (x2 : Int32) (hI : q_I (msh g q) q ws) (hzx2 : 0 ≤ x2.toInt ∧ x2.toInt ≤ 1) : q_mI l y_FR_isWrong prog_17_method_3_code 3 (.boolean) 1 0 0 D g [.long x1, .int x2] ws (fun r u => ws = u ∧ (0 ≤ r.toInt) ∧ (r.toInt ≤ x2.toInt) ∧ r = (F_FR_isWrong x1 x2)) := by
  intro sz
  refine q_into (by decide) (Nat.le_of_ble_eq_true rfl) ?_
  intro p e s m below meth c ls hsz C0 V hl
  have hx := C0.1
  have hb := C0.2.1
  replace hzx2 : q_F (0 ≤ x2.toInt ∧ x2.toInt ≤ 1) := hzx2
  have hl : lv_has ls 3 [(0, .long x1), (2, .int x2)] := hl
  refine lv_iload_n hx hb d_17_3_0 rfl (lv_at hl 1 rfl) ?_
  refine lv_if_eq (tgt := 17) hx hb d_17_3_1 (by decide) (fun c1 => ?_) (fun c1 => ?_)
  ·
    refine lv_iconst (v := 0) hx hb d_17_3_17 (by decide) ?_
    exact q_retz C0 V (by decide) (⟨rfl, (show 0 ≤ (0 : Int32).toInt from (by have z2 : (0 : Int32).toInt = 0 := rfl; omega)), (show (0 : Int32).toInt ≤ x2.toInt from (by have z2 : (0 : Int32).toInt = 0 := rfl; have t1 : 0 ≤ x2.toInt ∧ x2.toInt ≤ 1 := hzx2; omega)), (show (0 : Int32) = (F_FR_isWrong x1 x2) from (by rw [F_FR_isWrong.eq_1, if_pos c1]))⟩) d_17_3_18
  ·
    have b3 : q_F (x2.toInt ≠ 0) := (q_neI c1)
    refine lv_lload_n hx hb d_17_3_4 rfl (lv_at hl 0 rfl) ?_
    refine lv_bipush (v := 32) hx hb d_17_3_5 (by decide) ?_
    refine lv_lushr hx hb d_17_3_7 rfl ?_
    obtain ⟨j4, e5⟩ := q_nm ((x1.toUInt64 >>> ((32 : Int32).toInt64.toUInt64 &&& Int64.toUInt64 63)).toInt64 : Int64)
    refine q_tl (v := j4) e5 ?_
    refine lv_lconst (v := 0) hx hb d_17_3_8 (by decide) ?_
    refine W.lcmp hx hb d_17_3_9 ?_
    obtain ⟨a7, e8⟩ := q_nm (lg_cmp j4 0 : Int32)
    refine q_ti (v := a7) e8 ?_
    refine lv_if_eq (tgt := 17) hx hb d_17_3_10 (by decide) (fun c10 => ?_) (fun c10 => ?_)
    ·
      refine lv_iconst (v := 0) hx hb d_17_3_17 (by decide) ?_
      exact q_retz C0 V (by decide) (⟨rfl, (show 0 ≤ (0 : Int32).toInt from (by have z2 : (0 : Int32).toInt = 0 := rfl; omega)), (show (0 : Int32).toInt ≤ x2.toInt from (by have z2 : (0 : Int32).toInt = 0 := rfl; have t1 : 0 ≤ x2.toInt ∧ x2.toInt ≤ 1 := hzx2; omega)), (show (0 : Int32) = (F_FR_isWrong x1 x2) from (by have c10x := c10; rw [← e8, ← e5] at c10x; rw [F_FR_isWrong.eq_1, if_neg c1, if_pos c10x]))⟩) d_17_3_18
    ·
      refine lv_iconst (v := 1) hx hb d_17_3_13 (by decide) ?_
      refine lv_goto (tgt := 18) hx hb d_17_3_14 (by decide) ?_
      exact q_retz C0 V (by decide) (⟨rfl, (show 0 ≤ (1 : Int32).toInt from (by have z2 : (1 : Int32).toInt = 1 := rfl; omega)), (show (1 : Int32).toInt ≤ x2.toInt from (by have z2 : (1 : Int32).toInt = 1 := rfl; have t1 : 0 ≤ x2.toInt ∧ x2.toInt ≤ 1 := hzx2; have t2 : x2.toInt ≠ 0 := b3; omega)), (show (1 : Int32) = (F_FR_isWrong x1 x2) from (by have c10x := c10; rw [← e8, ← e5] at c10x; rw [F_FR_isWrong.eq_1, if_neg c1, if_neg c10x]))⟩) d_17_3_18
theorem d_17_4_0 : decode prog_17_method_4_code 0 = .ok (.aload_n 0, 1) := by decide +kernel
theorem d_17_4_1 : decode prog_17_method_4_code 1 = .ok (.iload_n 3, 1) := by decide +kernel
theorem d_17_4_12 : decode prog_17_method_4_code 12 = .ok (.putfield 35, 3) := by decide +kernel
set_option maxRecDepth 100000 in
theorem w_2088 : (Cond.fieldLink "NumberHouseModel$FloatRows" (35 : Nat) "NumberHouseModel$FloatRows" "fractionBits" "I") ∈ q_tbl := q_of9 168 rfl (by decide +kernel)
theorem d_17_4_15 : decode prog_17_method_4_code 15 = .ok (.aload_n 0, 1) := by decide +kernel
theorem d_17_4_16 : decode prog_17_method_4_code 16 = .ok (.iload_n 3, 1) := by decide +kernel
theorem d_17_4_29 : decode prog_17_method_4_code 29 = .ok (.putfield 38, 3) := by decide +kernel
set_option maxRecDepth 100000 in
theorem w_2089 : (Cond.fieldLink "NumberHouseModel$FloatRows" (38 : Nat) "NumberHouseModel$FloatRows" "most" "I") ∈ q_tbl := q_of9 169 rfl (by decide +kernel)
theorem d_17_4_32 : decode prog_17_method_4_code 32 = .ok (.aload_n 0, 1) := by decide +kernel
theorem d_17_4_33 : decode prog_17_method_4_code 33 = .ok (.lload_n 1, 1) := by decide +kernel
theorem d_17_4_34 : decode prog_17_method_4_code 34 = .ok (.iload_n 3, 1) := by decide +kernel
theorem d_17_4_45 : decode prog_17_method_4_code 45 = .ok (.lushr, 1) := by decide +kernel
theorem d_17_4_46 : decode prog_17_method_4_code 46 = .ok (.lconst 1, 1) := by decide +kernel
theorem d_17_4_47 : decode prog_17_method_4_code 47 = .ok (.land, 1) := by decide +kernel
theorem d_17_4_48 : decode prog_17_method_4_code 48 = .ok (.lconst 1, 1) := by decide +kernel
theorem d_17_4_49 : decode prog_17_method_4_code 49 = .ok (.lcmp, 1) := by decide +kernel
theorem d_17_4_58 : decode prog_17_method_4_code 58 = .ok (.putfield 41, 3) := by decide +kernel
set_option maxRecDepth 100000 in
theorem w_2085 : (Cond.fieldLink "NumberHouseModel$FloatRows" (41 : Nat) "NumberHouseModel$FloatRows" "negative" "Z") ∈ q_tbl := q_of9 165 rfl (by decide +kernel)
theorem d_17_4_61 : decode prog_17_method_4_code 61 = .ok (.aload_n 0, 1) := by decide +kernel
theorem d_17_4_62 : decode prog_17_method_4_code 62 = .ok (.lload_n 1, 1) := by decide +kernel
theorem d_17_4_63 : decode prog_17_method_4_code 63 = .ok (.aload_n 0, 1) := by decide +kernel
theorem d_17_4_64 : decode prog_17_method_4_code 64 = .ok (.getfield 35, 3) := by decide +kernel
theorem d_17_4_67 : decode prog_17_method_4_code 67 = .ok (.lushr, 1) := by decide +kernel
theorem d_17_4_68 : decode prog_17_method_4_code 68 = .ok (.l2i, 1) := by decide +kernel
theorem d_17_4_69 : decode prog_17_method_4_code 69 = .ok (.aload_n 0, 1) := by decide +kernel
theorem d_17_4_70 : decode prog_17_method_4_code 70 = .ok (.getfield 38, 3) := by decide +kernel
theorem d_17_4_73 : decode prog_17_method_4_code 73 = .ok (.iand, 1) := by decide +kernel
theorem d_17_4_74 : decode prog_17_method_4_code 74 = .ok (.putfield 45, 3) := by decide +kernel
set_option maxRecDepth 100000 in
theorem w_2086 : (Cond.fieldLink "NumberHouseModel$FloatRows" (45 : Nat) "NumberHouseModel$FloatRows" "exponent" "I") ∈ q_tbl := q_of9 166 rfl (by decide +kernel)
theorem d_17_4_77 : decode prog_17_method_4_code 77 = .ok (.aload_n 0, 1) := by decide +kernel
theorem d_17_4_78 : decode prog_17_method_4_code 78 = .ok (.lload_n 1, 1) := by decide +kernel
theorem d_17_4_79 : decode prog_17_method_4_code 79 = .ok (.lconst 1, 1) := by decide +kernel
theorem d_17_4_80 : decode prog_17_method_4_code 80 = .ok (.aload_n 0, 1) := by decide +kernel
theorem d_17_4_81 : decode prog_17_method_4_code 81 = .ok (.getfield 35, 3) := by decide +kernel
theorem d_17_4_84 : decode prog_17_method_4_code 84 = .ok (.lshl, 1) := by decide +kernel
theorem d_17_4_85 : decode prog_17_method_4_code 85 = .ok (.lconst 1, 1) := by decide +kernel
theorem d_17_4_86 : decode prog_17_method_4_code 86 = .ok (.lsub, 1) := by decide +kernel
theorem d_17_4_87 : decode prog_17_method_4_code 87 = .ok (.land, 1) := by decide +kernel
theorem d_17_4_88 : decode prog_17_method_4_code 88 = .ok (.putfield 48, 3) := by decide +kernel
set_option maxRecDepth 100000 in
theorem w_2087 : (Cond.fieldLink "NumberHouseModel$FloatRows" (48 : Nat) "NumberHouseModel$FloatRows" "fraction" "J") ∈ q_tbl := q_of9 167 rfl (by decide +kernel)
theorem d_17_4_91 : decode prog_17_method_4_code 91 = .ok (.aload_n 0, 1) := by decide +kernel
theorem d_17_4_92 : decode prog_17_method_4_code 92 = .ok (.aload_n 0, 1) := by decide +kernel
theorem d_17_4_93 : decode prog_17_method_4_code 93 = .ok (.getfield 45, 3) := by decide +kernel
theorem d_17_4_117 : decode prog_17_method_4_code 117 = .ok (.putfield 52, 3) := by decide +kernel
set_option maxRecDepth 100000 in
theorem w_2090 : (Cond.fieldLink "NumberHouseModel$FloatRows" (52 : Nat) "NumberHouseModel$FloatRows" "size" "J") ∈ q_tbl := q_of9 170 rfl (by decide +kernel)
theorem d_17_4_120 : decode prog_17_method_4_code 120 = .ok (.aload_n 0, 1) := by decide +kernel
theorem d_17_4_121 : decode prog_17_method_4_code 121 = .ok (.aload_n 0, 1) := by decide +kernel
theorem d_17_4_122 : decode prog_17_method_4_code 122 = .ok (.getfield 45, 3) := by decide +kernel
theorem d_17_4_125 : decode prog_17_method_4_code 125 = .ok (.ifCond .ne 7, 3) := by decide +kernel
theorem d_17_4_132 : decode prog_17_method_4_code 132 = .ok (.aload_n 0, 1) := by decide +kernel
theorem d_17_4_133 : decode prog_17_method_4_code 133 = .ok (.getfield 45, 3) := by decide +kernel
theorem d_17_4_136 : decode prog_17_method_4_code 136 = .ok (.iload_n 3, 1) := by decide +kernel
theorem d_17_4_137 : decode prog_17_method_4_code 137 = .ok (.ifCond .eq 9, 3) := by decide +kernel
theorem d_17_4_146 : decode prog_17_method_4_code 146 = .ok (.sipush 1075, 3) := by decide +kernel
theorem d_17_4_149 : decode prog_17_method_4_code 149 = .ok (.isub, 1) := by decide +kernel
theorem d_17_4_150 : decode prog_17_method_4_code 150 = .ok (.putfield 55, 3) := by decide +kernel
set_option maxRecDepth 100000 in
theorem w_2091 : (Cond.fieldLink "NumberHouseModel$FloatRows" (55 : Nat) "NumberHouseModel$FloatRows" "twos" "I") ∈ q_tbl := q_of9 171 rfl (by decide +kernel)
theorem d_17_4_153 : decode prog_17_method_4_code 153 = .ok (.return_, 1) := by decide +kernel
theorem d_17_4_140 : decode prog_17_method_4_code 140 = .ok (.sipush 150, 3) := by decide +kernel
theorem d_17_4_143 : decode prog_17_method_4_code 143 = .ok (.goto 6, 3) := by decide +kernel
theorem d_17_4_128 : decode prog_17_method_4_code 128 = .ok (.iconst 1, 1) := by decide +kernel
theorem d_17_4_129 : decode prog_17_method_4_code 129 = .ok (.goto 7, 3) := by decide +kernel
theorem d_17_4_96 : decode prog_17_method_4_code 96 = .ok (.ifCond .ne 10, 3) := by decide +kernel
theorem d_17_4_106 : decode prog_17_method_4_code 106 = .ok (.aload_n 0, 1) := by decide +kernel
theorem d_17_4_107 : decode prog_17_method_4_code 107 = .ok (.getfield 48, 3) := by decide +kernel
theorem d_17_4_110 : decode prog_17_method_4_code 110 = .ok (.lconst 1, 1) := by decide +kernel
theorem d_17_4_111 : decode prog_17_method_4_code 111 = .ok (.aload_n 0, 1) := by decide +kernel
theorem d_17_4_112 : decode prog_17_method_4_code 112 = .ok (.getfield 35, 3) := by decide +kernel
theorem d_17_4_115 : decode prog_17_method_4_code 115 = .ok (.lshl, 1) := by decide +kernel
theorem d_17_4_116 : decode prog_17_method_4_code 116 = .ok (.ladd, 1) := by decide +kernel
theorem d_17_4_99 : decode prog_17_method_4_code 99 = .ok (.aload_n 0, 1) := by decide +kernel
theorem d_17_4_100 : decode prog_17_method_4_code 100 = .ok (.getfield 48, 3) := by decide +kernel
theorem d_17_4_103 : decode prog_17_method_4_code 103 = .ok (.goto 14, 3) := by decide +kernel
theorem d_17_4_50 : decode prog_17_method_4_code 50 = .ok (.ifCond .ne 7, 3) := by decide +kernel
theorem d_17_4_57 : decode prog_17_method_4_code 57 = .ok (.iconst 0, 1) := by decide +kernel
theorem d_17_4_53 : decode prog_17_method_4_code 53 = .ok (.iconst 1, 1) := by decide +kernel
theorem d_17_4_54 : decode prog_17_method_4_code 54 = .ok (.goto 4, 3) := by decide +kernel
theorem d_17_4_35 : decode prog_17_method_4_code 35 = .ok (.ifCond .eq 8, 3) := by decide +kernel
theorem d_17_4_43 : decode prog_17_method_4_code 43 = .ok (.bipush 63, 2) := by decide +kernel
theorem d_17_4_38 : decode prog_17_method_4_code 38 = .ok (.bipush 31, 2) := by decide +kernel
theorem d_17_4_40 : decode prog_17_method_4_code 40 = .ok (.goto 5, 3) := by decide +kernel
theorem d_17_4_17 : decode prog_17_method_4_code 17 = .ok (.ifCond .eq 9, 3) := by decide +kernel
theorem d_17_4_26 : decode prog_17_method_4_code 26 = .ok (.sipush 2047, 3) := by decide +kernel
theorem d_17_4_20 : decode prog_17_method_4_code 20 = .ok (.sipush 255, 3) := by decide +kernel
theorem d_17_4_23 : decode prog_17_method_4_code 23 = .ok (.goto 6, 3) := by decide +kernel
theorem d_17_4_2 : decode prog_17_method_4_code 2 = .ok (.ifCond .eq 8, 3) := by decide +kernel
theorem d_17_4_10 : decode prog_17_method_4_code 10 = .ok (.bipush 52, 2) := by decide +kernel
theorem d_17_4_5 : decode prog_17_method_4_code 5 = .ok (.bipush 23, 2) := by decide +kernel
theorem d_17_4_7 : decode prog_17_method_4_code 7 = .ok (.goto 5, 3) := by decide +kernel
def y_FR_open : MethodName := ⟨"NumberHouseModel$FloatRows", "open", "(JZ)V"⟩
def F_FR_open_J117 (x2 : Int64) (x3 : Int32) (t0_0 : Int32) (t0_1 : Int32) (t0_2 : Int32) (t0_3 : Int32) (t0_4 : Int64) (t0_5 : Int32) (t0_6 : Int32) (t0_7 : Int64) (t0_8 : Int32) (t0_9 : Int64) (t0_10 : Int32) (lx14 : Int32) (lx26 : Int32) (lx38 : Int32) (lx56 : Int32) (a72 : Int32) (j81 : Int64) (lx85 : Int64) : Int32 × Int32 × Int32 × Int32 × Int64 × Int32 × Int32 × Int64 × Int32 × Int64 × Int32 := if a72 = (0 : Int32) then (if x3 = (0 : Int32) then ((t0_0, t0_1, lx56, a72, j81, lx14, lx26, lx85, (-1074 : Int32), t0_9, t0_10)) else ((t0_0, t0_1, lx56, a72, j81, lx14, lx26, lx85, (-149 : Int32), t0_9, t0_10))) else (if x3 = (0 : Int32) then ((t0_0, t0_1, lx56, a72, j81, lx14, lx26, lx85, (a72 - 1075 : Int32), t0_9, t0_10)) else ((t0_0, t0_1, lx56, a72, j81, lx14, lx26, lx85, (a72 - 150 : Int32), t0_9, t0_10)))
def F_FR_open_J58 (x2 : Int64) (x3 : Int32) (t0_0 : Int32) (t0_1 : Int32) (t0_2 : Int32) (t0_3 : Int32) (t0_4 : Int64) (t0_5 : Int32) (t0_6 : Int32) (t0_7 : Int64) (t0_8 : Int32) (t0_9 : Int64) (t0_10 : Int32) (lx14 : Int32) (lx26 : Int32) (lx38 : Int32) (lx56 : Int32) : Int32 × Int32 × Int32 × Int32 × Int64 × Int32 × Int32 × Int64 × Int32 × Int64 × Int32 := if ((((x2.toUInt64 >>> (lx14.toInt64.toUInt64 &&& Int64.toUInt64 63)).toInt64 : Int64).toInt32 : Int32) &&& lx26 : Int32) = (0 : Int32) then (F_FR_open_J117 x2 x3 t0_0 t0_1 t0_2 t0_3 t0_4 t0_5 t0_6 t0_7 t0_8 t0_9 t0_10 lx14 lx26 lx38 lx56 ((((x2.toUInt64 >>> (lx14.toInt64.toUInt64 &&& Int64.toUInt64 63)).toInt64 : Int64).toInt32 : Int32) &&& lx26 : Int32) (x2 &&& (((1 : Int64) <<< (lx14.toInt64 &&& 63) : Int64) - 1 : Int64) : Int64) (x2 &&& (((1 : Int64) <<< (lx14.toInt64 &&& 63) : Int64) - 1 : Int64) : Int64)) else (F_FR_open_J117 x2 x3 t0_0 t0_1 t0_2 t0_3 t0_4 t0_5 t0_6 t0_7 t0_8 t0_9 t0_10 lx14 lx26 lx38 lx56 ((((x2.toUInt64 >>> (lx14.toInt64.toUInt64 &&& Int64.toUInt64 63)).toInt64 : Int64).toInt32 : Int32) &&& lx26 : Int32) (x2 &&& (((1 : Int64) <<< (lx14.toInt64 &&& 63) : Int64) - 1 : Int64) : Int64) ((x2 &&& (((1 : Int64) <<< (lx14.toInt64 &&& 63) : Int64) - 1 : Int64) : Int64) + ((1 : Int64) <<< (lx14.toInt64 &&& 63) : Int64) : Int64))
def F_FR_open_J45 (x2 : Int64) (x3 : Int32) (t0_0 : Int32) (t0_1 : Int32) (t0_2 : Int32) (t0_3 : Int32) (t0_4 : Int64) (t0_5 : Int32) (t0_6 : Int32) (t0_7 : Int64) (t0_8 : Int32) (t0_9 : Int64) (t0_10 : Int32) (lx14 : Int32) (lx26 : Int32) (lx38 : Int32) : Int32 × Int32 × Int32 × Int32 × Int64 × Int32 × Int32 × Int64 × Int32 × Int64 × Int32 := if (lg_cmp (((x2.toUInt64 >>> (lx38.toInt64.toUInt64 &&& Int64.toUInt64 63)).toInt64 : Int64) &&& 1 : Int64) 1 : Int32) = (0 : Int32) then (F_FR_open_J58 x2 x3 t0_0 t0_1 t0_2 t0_3 t0_4 t0_5 t0_6 t0_7 t0_8 t0_9 t0_10 lx14 lx26 lx38 1) else (F_FR_open_J58 x2 x3 t0_0 t0_1 t0_2 t0_3 t0_4 t0_5 t0_6 t0_7 t0_8 t0_9 t0_10 lx14 lx26 lx38 0)
def F_FR_open_J29 (x2 : Int64) (x3 : Int32) (t0_0 : Int32) (t0_1 : Int32) (t0_2 : Int32) (t0_3 : Int32) (t0_4 : Int64) (t0_5 : Int32) (t0_6 : Int32) (t0_7 : Int64) (t0_8 : Int32) (t0_9 : Int64) (t0_10 : Int32) (lx14 : Int32) (lx26 : Int32) : Int32 × Int32 × Int32 × Int32 × Int64 × Int32 × Int32 × Int64 × Int32 × Int64 × Int32 := if x3 = (0 : Int32) then (F_FR_open_J45 x2 x3 t0_0 t0_1 t0_2 t0_3 t0_4 t0_5 t0_6 t0_7 t0_8 t0_9 t0_10 lx14 lx26 63) else (F_FR_open_J45 x2 x3 t0_0 t0_1 t0_2 t0_3 t0_4 t0_5 t0_6 t0_7 t0_8 t0_9 t0_10 lx14 lx26 31)
def F_FR_open_J12 (x2 : Int64) (x3 : Int32) (t0_0 : Int32) (t0_1 : Int32) (t0_2 : Int32) (t0_3 : Int32) (t0_4 : Int64) (t0_5 : Int32) (t0_6 : Int32) (t0_7 : Int64) (t0_8 : Int32) (t0_9 : Int64) (t0_10 : Int32) (lx14 : Int32) : Int32 × Int32 × Int32 × Int32 × Int64 × Int32 × Int32 × Int64 × Int32 × Int64 × Int32 := if x3 = (0 : Int32) then (F_FR_open_J29 x2 x3 t0_0 t0_1 t0_2 t0_3 t0_4 t0_5 t0_6 t0_7 t0_8 t0_9 t0_10 lx14 2047) else (F_FR_open_J29 x2 x3 t0_0 t0_1 t0_2 t0_3 t0_4 t0_5 t0_6 t0_7 t0_8 t0_9 t0_10 lx14 255)
def F_FR_open (x2 : Int64) (x3 : Int32) (t0_0 : Int32) (t0_1 : Int32) (t0_2 : Int32) (t0_3 : Int32) (t0_4 : Int64) (t0_5 : Int32) (t0_6 : Int32) (t0_7 : Int64) (t0_8 : Int32) (t0_9 : Int64) (t0_10 : Int32) : Int32 × Int32 × Int32 × Int32 × Int64 × Int32 × Int32 × Int64 × Int32 × Int64 × Int32 := if x3 = (0 : Int32) then (F_FR_open_J12 x2 x3 t0_0 t0_1 t0_2 t0_3 t0_4 t0_5 t0_6 t0_7 t0_8 t0_9 t0_10 52) else (F_FR_open_J12 x2 x3 t0_0 t0_1 t0_2 t0_3 t0_4 t0_5 t0_6 t0_7 t0_8 t0_9 t0_10 23)
set_option maxRecDepth 100000 in
set_option maxHeartbeats 4000000 in
theorem X_FR_open (l : Launch) (D : va_G) (g : Nat → ClassId) (q : Nat → Nat) (ws : va_W) (x2 : Int64) (x3 : Int32) (hI : q_I (msh g q) q ws) (t0_0 : Int32) (t0_1 : Int32) (t0_2 : Int32) (t0_3 : Int32) (t0_4 : Int64) (t0_5 : Int32) (t0_6 : Int32) (t0_7 : Int64) (t0_8 : Int32) (t0_9 : Int64) (t0_10 : Int32) (hT0 : ws[145]? = (some (q 145, .inr (15, [.int t0_0, .ref (q 146), .ref (q 147), .ref (q 148), .ref (q 149), .ref (q 150), .ref (q 151), .ref (q 152), .int t0_1, .int t0_2, .int t0_3, .long t0_4, .int t0_5, .int t0_6, .long t0_7, .int t0_8, .long t0_9, .int t0_10])) : Option (Nat × va_E))) (hzx3 : 0 ≤ x3.toInt ∧ x3.toInt ≤ 1) : q_mV l y_FR_open prog_17_method_4_code 4 1 0 0 D g [.ref (q 145), .long x2, .int x3] ws (fun u => q_I (msh g q) q u ∧ q_un ws u [145] ∧ ∃ (u0_0 : Int32) (u0_1 : Int32) (u0_2 : Int32) (u0_3 : Int32) (u0_4 : Int64) (u0_5 : Int32) (u0_6 : Int32) (u0_7 : Int64) (u0_8 : Int32) (u0_9 : Int64) (u0_10 : Int32), u[145]? = (some (q 145, .inr (15, [.int u0_0, .ref (q 146), .ref (q 147), .ref (q 148), .ref (q 149), .ref (q 150), .ref (q 151), .ref (q 152), .int u0_1, .int u0_2, .int u0_3, .long u0_4, .int u0_5, .int u0_6, .long u0_7, .int u0_8, .long u0_9, .int u0_10])) : Option (Nat × va_E)) ∧ (0 ≤ u0_2.toInt) ∧ (u0_2.toInt ≤ 1) ∧ (0 ≤ u0_3.toInt) ∧ (23 ≤ u0_5.toInt) ∧ (u0_5.toInt ≤ 52) ∧ (255 ≤ u0_6.toInt) ∧ (u0_6.toInt ≤ 2047) ∧ (t0_0.toInt ≤ u0_0.toInt) ∧ (u0_0.toInt ≤ t0_0.toInt) ∧ (t0_1.toInt ≤ u0_1.toInt) ∧ (u0_1.toInt ≤ t0_1.toInt) ∧ (x3.toInt ≤ u0_8.toInt + 1074) ∧ (u0_8.toInt ≤ x3.toInt + 1896) ∧ (t0_9.toInt ≤ u0_9.toInt) ∧ (u0_9.toInt ≤ t0_9.toInt) ∧ (t0_10.toInt ≤ u0_10.toInt) ∧ (u0_10.toInt ≤ t0_10.toInt) ∧ (u0_3.toInt ≤ u0_6.toInt) ∧ (u0_8.toInt + 149 ≤ u0_3.toInt) ∧ (u0_3.toInt ≤ u0_8.toInt + 1075) ∧ (u0_8.toInt + 150 ≤ u0_6.toInt) ∧ (u0_0, u0_1, u0_2, u0_3, u0_4, u0_5, u0_6, u0_7, u0_8, u0_9, u0_10) = (F_FR_open x2 x3 t0_0 t0_1 t0_2 t0_3 t0_4 t0_5 t0_6 t0_7 t0_8 t0_9 t0_10)) := by
  intro sz
  refine q_into (by decide) (Nat.le_of_ble_eq_true rfl) ?_
  intro p e s m below meth c ls hsz C0 V hl
  have hx := C0.1
  have hb := C0.2.1
  replace hzx3 : q_F (0 ≤ x3.toInt ∧ x3.toInt ≤ 1) := hzx3
  have btt0_2 := n_w145 hI hT0
  replace btt0_2 : q_F (0 ≤ t0_2.toInt ∧ t0_2.toInt ≤ 1) := btt0_2
  have hF : q_un ws ws [145] := q_u0
  have hl : lv_has ls 4 [(0, .ref (q 145)), (1, .long x2), (3, .int x3)] := hl
  refine lv_aload_n hx hb d_17_4_0 rfl (lv_at hl 0 rfl) ?_
  refine lv_iload_n hx hb d_17_4_1 rfl (lv_at hl 2 rfl) ?_
  refine q_join (X := Int32) (fun z H locs ls _ => q_F (23 ≤ z.toInt) ∧ q_F (z.toInt ≤ 52) ∧ q_Wd D g (va_A ws sz) s ws H locs ∧ lv_has ls 4 [(0, .ref (q 145)), (1, .long x2), (3, .int x3)] ∧ F_FR_open_J12 x2 x3 t0_0 t0_1 t0_2 t0_3 t0_4 t0_5 t0_6 t0_7 t0_8 t0_9 t0_10 z = (F_FR_open x2 x3 t0_0 t0_1 t0_2 t0_3 t0_4 t0_5 t0_6 t0_7 t0_8 t0_9 t0_10)) (fun z => [.int z, .ref (q 145)]) 12 0 0 ?_ ?_
  ·
    rintro lx14 H locs ls _ ⟨i17, i18, V, hl, hR19⟩
    replace i17 : q_F (23 ≤ lx14.toInt) := i17
    replace i18 : q_F (lx14.toInt ≤ 52) := i18
    replace hl : lv_has ls 4 [(0, .ref (q 145)), (1, .long x2), (3, .int x3)] := hl
    refine q_put (ci := 15) (j := 12) (v := .int lx14) (ty := .int) C0 V i_FR o_FR n_FR rfl rfl hT0 (by decide) w_2088 rfl rfl rfl rfl (Nat.le_of_ble_eq_true rfl) d_17_4_12 (fun H locs w24 hu25 hT0 V => ?_)
    replace hT0 : w24[145]? = (some (q 145, .inr (15, [.int t0_0, .ref (q 146), .ref (q 147), .ref (q 148), .ref (q 149), .ref (q 150), .ref (q 151), .ref (q 152), .int t0_1, .int t0_2, .int t0_3, .long t0_4, .int lx14, .int t0_6, .long t0_7, .int t0_8, .long t0_9, .int t0_10])) : Option (Nat × va_E)) := hT0
    replace hI := n_p145 hI hu25 hT0 (by first | with_reducible exact q_fe btt0_2 | exact ⟨(by have t1 : 0 ≤ t0_2.toInt ∧ t0_2.toInt ≤ 1 := btt0_2; omega), (by have t1 : 0 ≤ t0_2.toInt ∧ t0_2.toInt ≤ 1 := btt0_2; omega)⟩)
    replace hF := q_us hF hu25 (by simp)
    refine lv_aload_n hx hb d_17_4_15 rfl (lv_at hl 0 rfl) ?_
    refine lv_iload_n hx hb d_17_4_16 rfl (lv_at hl 2 rfl) ?_
    refine q_join (X := Int32) (fun z H locs ls _ => q_F (255 ≤ z.toInt) ∧ q_F (z.toInt ≤ 2047) ∧ q_Wd D g (va_A ws sz) s w24 H locs ∧ lv_has ls 4 [(0, .ref (q 145)), (1, .long x2), (3, .int x3)] ∧ F_FR_open_J29 x2 x3 t0_0 t0_1 t0_2 t0_3 t0_4 t0_5 t0_6 t0_7 t0_8 t0_9 t0_10 lx14 z = (F_FR_open x2 x3 t0_0 t0_1 t0_2 t0_3 t0_4 t0_5 t0_6 t0_7 t0_8 t0_9 t0_10)) (fun z => [.int z, .ref (q 145)]) 29 0 0 ?_ ?_
    ·
      rintro lx26 H locs ls _ ⟨i29, i30, V, hl, hR31⟩
      replace i29 : q_F (255 ≤ lx26.toInt) := i29
      replace i30 : q_F (lx26.toInt ≤ 2047) := i30
      replace hl : lv_has ls 4 [(0, .ref (q 145)), (1, .long x2), (3, .int x3)] := hl
      refine q_put (ci := 15) (j := 13) (v := .int lx26) (ty := .int) C0 V i_FR o_FR n_FR rfl rfl hT0 (by decide) w_2089 rfl rfl rfl rfl (Nat.le_of_ble_eq_true rfl) d_17_4_29 (fun H locs w36 hu37 hT0 V => ?_)
      replace hT0 : w36[145]? = (some (q 145, .inr (15, [.int t0_0, .ref (q 146), .ref (q 147), .ref (q 148), .ref (q 149), .ref (q 150), .ref (q 151), .ref (q 152), .int t0_1, .int t0_2, .int t0_3, .long t0_4, .int lx14, .int lx26, .long t0_7, .int t0_8, .long t0_9, .int t0_10])) : Option (Nat × va_E)) := hT0
      replace hI := n_p145 hI hu37 hT0 (by first | with_reducible exact q_fe btt0_2 | exact ⟨(by have t1 : 0 ≤ t0_2.toInt ∧ t0_2.toInt ≤ 1 := btt0_2; omega), (by have t1 : 0 ≤ t0_2.toInt ∧ t0_2.toInt ≤ 1 := btt0_2; omega)⟩)
      replace hF := q_us hF hu37 (by simp)
      refine lv_aload_n hx hb d_17_4_32 rfl (lv_at hl 0 rfl) ?_
      refine lv_lload_n hx hb d_17_4_33 rfl (lv_at hl 1 rfl) ?_
      refine lv_iload_n hx hb d_17_4_34 rfl (lv_at hl 2 rfl) ?_
      refine q_join (X := Int32) (fun z H locs ls _ => q_F (31 ≤ z.toInt) ∧ q_F (z.toInt ≤ 63) ∧ q_Wd D g (va_A ws sz) s w36 H locs ∧ lv_has ls 4 [(0, .ref (q 145)), (1, .long x2), (3, .int x3)] ∧ F_FR_open_J45 x2 x3 t0_0 t0_1 t0_2 t0_3 t0_4 t0_5 t0_6 t0_7 t0_8 t0_9 t0_10 lx14 lx26 z = (F_FR_open x2 x3 t0_0 t0_1 t0_2 t0_3 t0_4 t0_5 t0_6 t0_7 t0_8 t0_9 t0_10)) (fun z => [.int z, .long x2, .ref (q 145)]) 45 0 0 ?_ ?_
      ·
        rintro lx38 H locs ls _ ⟨i41, i42, V, hl, hR43⟩
        clear i41
        clear i42
        replace hl : lv_has ls 4 [(0, .ref (q 145)), (1, .long x2), (3, .int x3)] := hl
        refine lv_lushr hx hb d_17_4_45 rfl ?_
        obtain ⟨j48, e49⟩ := q_nm ((x2.toUInt64 >>> (lx38.toInt64.toUInt64 &&& Int64.toUInt64 63)).toInt64 : Int64)
        refine q_tl (v := j48) e49 ?_
        refine lv_lconst (v := 1) hx hb d_17_4_46 (by decide) ?_
        refine lv_land hx hb d_17_4_47 ?_
        obtain ⟨j50, e51⟩ := q_nm (j48 &&& 1 : Int64)
        refine q_tl (v := j50) e51 ?_
        refine lv_lconst (v := 1) hx hb d_17_4_48 (by decide) ?_
        refine W.lcmp hx hb d_17_4_49 ?_
        obtain ⟨a53, e54⟩ := q_nm (lg_cmp j50 1 : Int32)
        refine q_ti (v := a53) e54 ?_
        refine q_join (X := Int32) (fun z H locs ls _ => q_F (0 ≤ z.toInt) ∧ q_F (z.toInt ≤ 1) ∧ q_Wd D g (va_A ws sz) s w36 H locs ∧ lv_has ls 4 [(0, .ref (q 145)), (1, .long x2), (3, .int x3)] ∧ F_FR_open_J58 x2 x3 t0_0 t0_1 t0_2 t0_3 t0_4 t0_5 t0_6 t0_7 t0_8 t0_9 t0_10 lx14 lx26 lx38 z = (F_FR_open x2 x3 t0_0 t0_1 t0_2 t0_3 t0_4 t0_5 t0_6 t0_7 t0_8 t0_9 t0_10)) (fun z => [.int z, .ref (q 145)]) 58 0 0 ?_ ?_
        ·
          rintro lx56 H locs ls _ ⟨i59, i60, V, hl, hR61⟩
          replace i59 : q_F (0 ≤ lx56.toInt) := i59
          replace i60 : q_F (lx56.toInt ≤ 1) := i60
          replace hl : lv_has ls 4 [(0, .ref (q 145)), (1, .long x2), (3, .int x3)] := hl
          refine q_put (ci := 15) (j := 9) (v := .int lx56) (ty := .boolean) C0 V i_FR o_FR n_FR rfl rfl hT0 (by decide) w_2085 rfl rfl (q_nz01 (q_Ile (x := 0) (y := lx56.toInt) (by decide) rfl (by first | with_reducible exact q_fe i59 | (have t1 : 0 ≤ lx56.toInt := i59; omega))) (q_Ile (x := lx56.toInt) (y := 1) rfl (by decide) (by first | with_reducible exact q_fe i60 | (have t1 : lx56.toInt ≤ 1 := i60; omega)))) (q_fz01 (q_Ile (x := 0) (y := lx56.toInt) (by decide) rfl (by first | with_reducible exact q_fe i59 | (have t1 : 0 ≤ lx56.toInt := i59; omega))) (q_Ile (x := lx56.toInt) (y := 1) rfl (by decide) (by first | with_reducible exact q_fe i60 | (have t1 : lx56.toInt ≤ 1 := i60; omega)))) (Nat.le_of_ble_eq_true rfl) d_17_4_58 (fun H locs w66 hu67 hT0 V => ?_)
          replace hT0 : w66[145]? = (some (q 145, .inr (15, [.int t0_0, .ref (q 146), .ref (q 147), .ref (q 148), .ref (q 149), .ref (q 150), .ref (q 151), .ref (q 152), .int t0_1, .int lx56, .int t0_3, .long t0_4, .int lx14, .int lx26, .long t0_7, .int t0_8, .long t0_9, .int t0_10])) : Option (Nat × va_E)) := hT0
          replace hI := n_p145 hI hu67 hT0 ⟨(by first | with_reducible exact q_fe i59 | (have t1 : 0 ≤ lx56.toInt := i59; omega)), (by first | with_reducible exact q_fe i60 | (have t1 : lx56.toInt ≤ 1 := i60; omega))⟩
          replace hF := q_us hF hu67 (by simp)
          refine lv_aload_n hx hb d_17_4_61 rfl (lv_at hl 0 rfl) ?_
          refine lv_lload_n hx hb d_17_4_62 rfl (lv_at hl 1 rfl) ?_
          refine lv_aload_n hx hb d_17_4_63 rfl (lv_at hl 0 rfl) ?_
          refine q_get (ci := 15) (j := 12) (v := .int lx14) C0 V i_FR rfl rfl hT0 (by decide) w_2088 rfl d_17_4_64 ?_
          refine lv_lushr hx hb d_17_4_67 rfl ?_
          obtain ⟨j68, e69⟩ := q_nm ((x2.toUInt64 >>> (lx14.toInt64.toUInt64 &&& Int64.toUInt64 63)).toInt64 : Int64)
          refine q_tl (v := j68) e69 ?_
          refine lv_l2i hx hb d_17_4_68 rfl ?_
          obtain ⟨a70, e71⟩ := q_nm (j68.toInt32 : Int32)
          refine q_ti (v := a70) e71 ?_
          refine lv_aload_n hx hb d_17_4_69 rfl (lv_at hl 0 rfl) ?_
          refine q_get (ci := 15) (j := 13) (v := .int lx26) C0 V i_FR rfl rfl hT0 (by decide) w_2089 rfl d_17_4_70 ?_
          refine lv_iand hx hb d_17_4_73 ?_
          obtain ⟨a72, e73⟩ := q_nm (a70 &&& lx26 : Int32)
          refine q_ti (v := a72) e73 ?_
          have b74 : q_F (0 ≤ a72.toInt ∧ a72.toInt ≤ lx26.toInt) := (by rw [← e73]; show 0 ≤ (a70 &&& lx26 : Int32).toInt ∧ (a70 &&& lx26 : Int32).toInt ≤ lx26.toInt; exact s_and (m := lx26) (by first | with_reducible exact q_fe i29 | (have t1 : 255 ≤ lx26.toInt := i29; omega)))
          refine q_put (ci := 15) (j := 10) (v := .int a72) (ty := .int) C0 V i_FR o_FR n_FR rfl rfl hT0 (by decide) w_2086 rfl rfl rfl rfl (Nat.le_of_ble_eq_true rfl) d_17_4_74 (fun H locs w75 hu76 hT0 V => ?_)
          replace hT0 : w75[145]? = (some (q 145, .inr (15, [.int t0_0, .ref (q 146), .ref (q 147), .ref (q 148), .ref (q 149), .ref (q 150), .ref (q 151), .ref (q 152), .int t0_1, .int lx56, .int a72, .long t0_4, .int lx14, .int lx26, .long t0_7, .int t0_8, .long t0_9, .int t0_10])) : Option (Nat × va_E)) := hT0
          replace hI := n_p145 hI hu76 hT0 ⟨(by first | with_reducible exact q_fe i59 | (have t1 : 0 ≤ lx56.toInt := i59; omega)), (by first | with_reducible exact q_fe i60 | (have t1 : lx56.toInt ≤ 1 := i60; omega))⟩
          replace hF := q_us hF hu76 (by simp)
          refine lv_aload_n hx hb d_17_4_77 rfl (lv_at hl 0 rfl) ?_
          refine lv_lload_n hx hb d_17_4_78 rfl (lv_at hl 1 rfl) ?_
          refine lv_lconst (v := 1) hx hb d_17_4_79 (by decide) ?_
          refine lv_aload_n hx hb d_17_4_80 rfl (lv_at hl 0 rfl) ?_
          refine q_get (ci := 15) (j := 12) (v := .int lx14) C0 V i_FR rfl rfl hT0 (by decide) w_2088 rfl d_17_4_81 ?_
          refine lv_lshl hx hb d_17_4_84 rfl ?_
          obtain ⟨j77, e78⟩ := q_nm ((1 : Int64) <<< (lx14.toInt64 &&& 63) : Int64)
          refine q_tl (v := j77) e78 ?_
          refine lv_lconst (v := 1) hx hb d_17_4_85 (by decide) ?_
          refine lv_lsub hx hb d_17_4_86 ?_
          obtain ⟨j79, e80⟩ := q_nm (j77 - 1 : Int64)
          refine q_tl (v := j79) e80 ?_
          refine lv_land hx hb d_17_4_87 ?_
          obtain ⟨j81, e82⟩ := q_nm (x2 &&& j79 : Int64)
          refine q_tl (v := j81) e82 ?_
          refine q_put (ci := 15) (j := 11) (v := .long j81) (ty := .long) C0 V i_FR o_FR n_FR rfl rfl hT0 (by decide) w_2087 rfl rfl rfl rfl (Nat.le_of_ble_eq_true rfl) d_17_4_88 (fun H locs w83 hu84 hT0 V => ?_)
          replace hT0 : w83[145]? = (some (q 145, .inr (15, [.int t0_0, .ref (q 146), .ref (q 147), .ref (q 148), .ref (q 149), .ref (q 150), .ref (q 151), .ref (q 152), .int t0_1, .int lx56, .int a72, .long j81, .int lx14, .int lx26, .long t0_7, .int t0_8, .long t0_9, .int t0_10])) : Option (Nat × va_E)) := hT0
          replace hI := n_p145 hI hu84 hT0 ⟨(by first | with_reducible exact q_fe i59 | (have t1 : 0 ≤ lx56.toInt := i59; omega)), (by first | with_reducible exact q_fe i60 | (have t1 : lx56.toInt ≤ 1 := i60; omega))⟩
          replace hF := q_us hF hu84 (by simp)
          refine lv_aload_n hx hb d_17_4_91 rfl (lv_at hl 0 rfl) ?_
          refine lv_aload_n hx hb d_17_4_92 rfl (lv_at hl 0 rfl) ?_
          refine q_get (ci := 15) (j := 10) (v := .int a72) C0 V i_FR rfl rfl hT0 (by decide) w_2086 rfl d_17_4_93 ?_
          refine q_join (X := Int64) (fun z H locs ls _ => q_Wd D g (va_A ws sz) s w83 H locs ∧ lv_has ls 4 [(0, .ref (q 145)), (3, .int x3)] ∧ F_FR_open_J117 x2 x3 t0_0 t0_1 t0_2 t0_3 t0_4 t0_5 t0_6 t0_7 t0_8 t0_9 t0_10 lx14 lx26 lx38 lx56 a72 j81 z = (F_FR_open x2 x3 t0_0 t0_1 t0_2 t0_3 t0_4 t0_5 t0_6 t0_7 t0_8 t0_9 t0_10)) (fun z => [.long z, .ref (q 145)]) 117 0 0 ?_ ?_
          ·
            rintro lx85 H locs ls _ ⟨V, hl, hR88⟩
            replace hl : lv_has ls 4 [(0, .ref (q 145)), (3, .int x3)] := hl
            refine q_put (ci := 15) (j := 14) (v := .long lx85) (ty := .long) C0 V i_FR o_FR n_FR rfl rfl hT0 (by decide) w_2090 rfl rfl rfl rfl (Nat.le_of_ble_eq_true rfl) d_17_4_117 (fun H locs w93 hu94 hT0 V => ?_)
            replace hT0 : w93[145]? = (some (q 145, .inr (15, [.int t0_0, .ref (q 146), .ref (q 147), .ref (q 148), .ref (q 149), .ref (q 150), .ref (q 151), .ref (q 152), .int t0_1, .int lx56, .int a72, .long j81, .int lx14, .int lx26, .long lx85, .int t0_8, .long t0_9, .int t0_10])) : Option (Nat × va_E)) := hT0
            replace hI := n_p145 hI hu94 hT0 ⟨(by first | with_reducible exact q_fe i59 | (have t1 : 0 ≤ lx56.toInt := i59; omega)), (by first | with_reducible exact q_fe i60 | (have t1 : lx56.toInt ≤ 1 := i60; omega))⟩
            replace hF := q_us hF hu94 (by simp)
            refine lv_aload_n hx hb d_17_4_120 rfl (lv_at hl 0 rfl) ?_
            refine lv_aload_n hx hb d_17_4_121 rfl (lv_at hl 0 rfl) ?_
            refine q_get (ci := 15) (j := 10) (v := .int a72) C0 V i_FR rfl rfl hT0 (by decide) w_2086 rfl d_17_4_122 ?_
            refine lv_if_ne (tgt := 132) hx hb d_17_4_125 (by decide) (fun c95 => ?_) (fun c95 => ?_)
            ·
              have b96 : q_F (a72.toInt ≠ 0) := (q_neI c95)
              refine lv_aload_n hx hb d_17_4_132 rfl (lv_at hl 0 rfl) ?_
              refine q_get (ci := 15) (j := 10) (v := .int a72) C0 V i_FR rfl rfl hT0 (by decide) w_2086 rfl d_17_4_133 ?_
              refine lv_iload_n hx hb d_17_4_136 rfl (lv_at hl 1 rfl) ?_
              refine lv_if_eq (tgt := 146) hx hb d_17_4_137 (by decide) (fun c97 => ?_) (fun c97 => ?_)
              ·
                have b98 : q_F (x3.toInt = 0) := (q_eqI c97)
                refine lv_sipush (v := 1075) hx hb d_17_4_146 (by decide) ?_
                refine lv_isub hx hb d_17_4_149 ?_
                obtain ⟨a99, e100⟩ := q_nm (a72 - 1075 : Int32)
                refine q_ti (v := a99) e100 ?_
                have b101 : q_F (a99.toInt = a72.toInt - 1075) := (by rw [← e100]; show (a72 - 1075 : Int32).toInt = a72.toInt - 1075; exact q_subI (x := a72.toInt) (y := 1075) rfl (by decide) (by have t1 : 0 ≤ a72.toInt ∧ a72.toInt ≤ lx26.toInt := b74; have _ := q_lo32 (x := a72); have _ := q_hi32 (x := a72); omega) (by have t1 : 0 ≤ a72.toInt ∧ a72.toInt ≤ lx26.toInt := b74; have _ := q_lo32 (x := a72); have _ := q_hi32 (x := a72); omega))
                refine q_put (ci := 15) (j := 15) (v := .int a99) (ty := .int) C0 V i_FR o_FR n_FR rfl rfl hT0 (by decide) w_2091 rfl rfl rfl rfl (Nat.le_of_ble_eq_true rfl) d_17_4_150 (fun H locs w102 hu103 hT0 V => ?_)
                replace hT0 : w102[145]? = (some (q 145, .inr (15, [.int t0_0, .ref (q 146), .ref (q 147), .ref (q 148), .ref (q 149), .ref (q 150), .ref (q 151), .ref (q 152), .int t0_1, .int lx56, .int a72, .long j81, .int lx14, .int lx26, .long lx85, .int a99, .long t0_9, .int t0_10])) : Option (Nat × va_E)) := hT0
                replace hI := n_p145 hI hu103 hT0 ⟨(by first | with_reducible exact q_fe i59 | (have t1 : 0 ≤ lx56.toInt := i59; omega)), (by first | with_reducible exact q_fe i60 | (have t1 : lx56.toInt ≤ 1 := i60; omega))⟩
                replace hF := q_us hF hu103 (by simp)
                exact q_retv C0 V (⟨hI, hF, t0_0, t0_1, lx56, a72, j81, lx14, lx26, lx85, a99, t0_9, t0_10, hT0, (show 0 ≤ lx56.toInt from (by first | with_reducible exact q_fe i59 | (have t1 : 0 ≤ lx56.toInt := i59; omega))), (show lx56.toInt ≤ 1 from (by first | with_reducible exact q_fe i60 | (have t1 : lx56.toInt ≤ 1 := i60; omega))), (show 0 ≤ a72.toInt from (by first | with_reducible exact (q_fe b74).2 | with_reducible exact (q_fe b74).1 | (have t1 : 0 ≤ a72.toInt ∧ a72.toInt ≤ lx26.toInt := b74; omega))), (show 23 ≤ lx14.toInt from (by first | with_reducible exact q_fe i17 | (have t1 : 23 ≤ lx14.toInt := i17; omega))), (show lx14.toInt ≤ 52 from (by first | with_reducible exact q_fe i18 | (have t1 : lx14.toInt ≤ 52 := i18; omega))), (show 255 ≤ lx26.toInt from (by first | with_reducible exact q_fe i29 | (have t1 : 255 ≤ lx26.toInt := i29; omega))), (show lx26.toInt ≤ 2047 from (by first | with_reducible exact q_fe i30 | (have t1 : lx26.toInt ≤ 2047 := i30; omega))), (show t0_0.toInt ≤ t0_0.toInt from (by omega)), (show t0_0.toInt ≤ t0_0.toInt from (by omega)), (show t0_1.toInt ≤ t0_1.toInt from (by omega)), (show t0_1.toInt ≤ t0_1.toInt from (by omega)), (show x3.toInt ≤ a99.toInt + 1074 from (by have t1 : 0 ≤ a72.toInt ∧ a72.toInt ≤ lx26.toInt := b74; have t2 : a72.toInt ≠ 0 := b96; have t3 : x3.toInt = 0 := b98; have t4 : a99.toInt = a72.toInt - 1075 := b101; omega)), (show a99.toInt ≤ x3.toInt + 1896 from (by have t1 : 0 ≤ x3.toInt ∧ x3.toInt ≤ 1 := hzx3; have t2 : lx26.toInt ≤ 2047 := i30; have t3 : 0 ≤ a72.toInt ∧ a72.toInt ≤ lx26.toInt := b74; have t4 : a99.toInt = a72.toInt - 1075 := b101; omega)), (show t0_9.toInt ≤ t0_9.toInt from (by omega)), (show t0_9.toInt ≤ t0_9.toInt from (by omega)), (show t0_10.toInt ≤ t0_10.toInt from (by omega)), (show t0_10.toInt ≤ t0_10.toInt from (by omega)), (show a72.toInt ≤ lx26.toInt from (by first | with_reducible exact (q_fe b74).2 | with_reducible exact (q_fe b74).1 | (have t1 : 0 ≤ a72.toInt ∧ a72.toInt ≤ lx26.toInt := b74; omega))), (show a99.toInt + 149 ≤ a72.toInt from (by first | with_reducible exact q_fe b101 | (have t1 : a99.toInt = a72.toInt - 1075 := b101; omega))), (show a72.toInt ≤ a99.toInt + 1075 from (by first | with_reducible exact q_fe b101 | (have t1 : a99.toInt = a72.toInt - 1075 := b101; omega))), (show a99.toInt + 150 ≤ lx26.toInt from (by have t1 : 0 ≤ a72.toInt ∧ a72.toInt ≤ lx26.toInt := b74; have t2 : a99.toInt = a72.toInt - 1075 := b101; omega)), (show (t0_0, t0_1, lx56, a72, j81, lx14, lx26, lx85, a99, t0_9, t0_10) = (F_FR_open x2 x3 t0_0 t0_1 t0_2 t0_3 t0_4 t0_5 t0_6 t0_7 t0_8 t0_9 t0_10) from Eq.trans (by rw [← e100, F_FR_open_J117.eq_1, if_neg c95, if_pos c97]) hR88)⟩) d_17_4_153
              ·
                have b104 : q_F (x3.toInt ≠ 0) := (q_neI c97)
                refine lv_sipush (v := 150) hx hb d_17_4_140 (by decide) ?_
                refine lv_goto (tgt := 149) hx hb d_17_4_143 (by decide) ?_
                refine lv_isub hx hb d_17_4_149 ?_
                obtain ⟨a105, e106⟩ := q_nm (a72 - 150 : Int32)
                refine q_ti (v := a105) e106 ?_
                have b107 : q_F (a105.toInt = a72.toInt - 150) := (by rw [← e106]; show (a72 - 150 : Int32).toInt = a72.toInt - 150; exact q_subI (x := a72.toInt) (y := 150) rfl (by decide) (by have t1 : 0 ≤ a72.toInt ∧ a72.toInt ≤ lx26.toInt := b74; have _ := q_lo32 (x := a72); have _ := q_hi32 (x := a72); omega) (by have t1 : 0 ≤ a72.toInt ∧ a72.toInt ≤ lx26.toInt := b74; have _ := q_lo32 (x := a72); have _ := q_hi32 (x := a72); omega))
                refine q_put (ci := 15) (j := 15) (v := .int a105) (ty := .int) C0 V i_FR o_FR n_FR rfl rfl hT0 (by decide) w_2091 rfl rfl rfl rfl (Nat.le_of_ble_eq_true rfl) d_17_4_150 (fun H locs w108 hu109 hT0 V => ?_)
                replace hT0 : w108[145]? = (some (q 145, .inr (15, [.int t0_0, .ref (q 146), .ref (q 147), .ref (q 148), .ref (q 149), .ref (q 150), .ref (q 151), .ref (q 152), .int t0_1, .int lx56, .int a72, .long j81, .int lx14, .int lx26, .long lx85, .int a105, .long t0_9, .int t0_10])) : Option (Nat × va_E)) := hT0
                replace hI := n_p145 hI hu109 hT0 ⟨(by first | with_reducible exact q_fe i59 | (have t1 : 0 ≤ lx56.toInt := i59; omega)), (by first | with_reducible exact q_fe i60 | (have t1 : lx56.toInt ≤ 1 := i60; omega))⟩
                replace hF := q_us hF hu109 (by simp)
                exact q_retv C0 V (⟨hI, hF, t0_0, t0_1, lx56, a72, j81, lx14, lx26, lx85, a105, t0_9, t0_10, hT0, (show 0 ≤ lx56.toInt from (by first | with_reducible exact q_fe i59 | (have t1 : 0 ≤ lx56.toInt := i59; omega))), (show lx56.toInt ≤ 1 from (by first | with_reducible exact q_fe i60 | (have t1 : lx56.toInt ≤ 1 := i60; omega))), (show 0 ≤ a72.toInt from (by first | with_reducible exact (q_fe b74).2 | with_reducible exact (q_fe b74).1 | (have t1 : 0 ≤ a72.toInt ∧ a72.toInt ≤ lx26.toInt := b74; omega))), (show 23 ≤ lx14.toInt from (by first | with_reducible exact q_fe i17 | (have t1 : 23 ≤ lx14.toInt := i17; omega))), (show lx14.toInt ≤ 52 from (by first | with_reducible exact q_fe i18 | (have t1 : lx14.toInt ≤ 52 := i18; omega))), (show 255 ≤ lx26.toInt from (by first | with_reducible exact q_fe i29 | (have t1 : 255 ≤ lx26.toInt := i29; omega))), (show lx26.toInt ≤ 2047 from (by first | with_reducible exact q_fe i30 | (have t1 : lx26.toInt ≤ 2047 := i30; omega))), (show t0_0.toInt ≤ t0_0.toInt from (by omega)), (show t0_0.toInt ≤ t0_0.toInt from (by omega)), (show t0_1.toInt ≤ t0_1.toInt from (by omega)), (show t0_1.toInt ≤ t0_1.toInt from (by omega)), (show x3.toInt ≤ a105.toInt + 1074 from (by have t1 : 0 ≤ x3.toInt ∧ x3.toInt ≤ 1 := hzx3; have t2 : 0 ≤ a72.toInt ∧ a72.toInt ≤ lx26.toInt := b74; have t3 : a105.toInt = a72.toInt - 150 := b107; omega)), (show a105.toInt ≤ x3.toInt + 1896 from (by have t1 : 0 ≤ x3.toInt ∧ x3.toInt ≤ 1 := hzx3; have t2 : lx26.toInt ≤ 2047 := i30; have t3 : 0 ≤ a72.toInt ∧ a72.toInt ≤ lx26.toInt := b74; have t4 : x3.toInt ≠ 0 := b104; have t5 : a105.toInt = a72.toInt - 150 := b107; omega)), (show t0_9.toInt ≤ t0_9.toInt from (by omega)), (show t0_9.toInt ≤ t0_9.toInt from (by omega)), (show t0_10.toInt ≤ t0_10.toInt from (by omega)), (show t0_10.toInt ≤ t0_10.toInt from (by omega)), (show a72.toInt ≤ lx26.toInt from (by first | with_reducible exact (q_fe b74).2 | with_reducible exact (q_fe b74).1 | (have t1 : 0 ≤ a72.toInt ∧ a72.toInt ≤ lx26.toInt := b74; omega))), (show a105.toInt + 149 ≤ a72.toInt from (by first | with_reducible exact q_fe b107 | (have t1 : a105.toInt = a72.toInt - 150 := b107; omega))), (show a72.toInt ≤ a105.toInt + 1075 from (by first | with_reducible exact q_fe b107 | (have t1 : a105.toInt = a72.toInt - 150 := b107; omega))), (show a105.toInt + 150 ≤ lx26.toInt from (by have t1 : 0 ≤ a72.toInt ∧ a72.toInt ≤ lx26.toInt := b74; have t2 : a105.toInt = a72.toInt - 150 := b107; omega)), (show (t0_0, t0_1, lx56, a72, j81, lx14, lx26, lx85, a105, t0_9, t0_10) = (F_FR_open x2 x3 t0_0 t0_1 t0_2 t0_3 t0_4 t0_5 t0_6 t0_7 t0_8 t0_9 t0_10) from Eq.trans (by rw [← e106, F_FR_open_J117.eq_1, if_neg c95, if_neg c97]) hR88)⟩) d_17_4_153
            ·
              have b110 : q_F (a72.toInt = 0) := (q_eqI c95)
              refine lv_iconst (v := 1) hx hb d_17_4_128 (by decide) ?_
              refine lv_goto (tgt := 136) hx hb d_17_4_129 (by decide) ?_
              refine lv_iload_n hx hb d_17_4_136 rfl (lv_at hl 1 rfl) ?_
              refine lv_if_eq (tgt := 146) hx hb d_17_4_137 (by decide) (fun c111 => ?_) (fun c111 => ?_)
              ·
                have b112 : q_F (x3.toInt = 0) := (q_eqI c111)
                refine lv_sipush (v := 1075) hx hb d_17_4_146 (by decide) ?_
                refine lv_isub hx hb d_17_4_149 ?_
                refine q_ti (v := (-1074)) (by decide) ?_
                refine q_put (ci := 15) (j := 15) (v := .int (-1074)) (ty := .int) C0 V i_FR o_FR n_FR rfl rfl hT0 (by decide) w_2091 rfl rfl rfl rfl (Nat.le_of_ble_eq_true rfl) d_17_4_150 (fun H locs w113 hu114 hT0 V => ?_)
                replace hT0 : w113[145]? = (some (q 145, .inr (15, [.int t0_0, .ref (q 146), .ref (q 147), .ref (q 148), .ref (q 149), .ref (q 150), .ref (q 151), .ref (q 152), .int t0_1, .int lx56, .int a72, .long j81, .int lx14, .int lx26, .long lx85, .int (-1074), .long t0_9, .int t0_10])) : Option (Nat × va_E)) := hT0
                replace hI := n_p145 hI hu114 hT0 ⟨(by first | with_reducible exact q_fe i59 | (have t1 : 0 ≤ lx56.toInt := i59; omega)), (by first | with_reducible exact q_fe i60 | (have t1 : lx56.toInt ≤ 1 := i60; omega))⟩
                replace hF := q_us hF hu114 (by simp)
                exact q_retv C0 V (⟨hI, hF, t0_0, t0_1, lx56, a72, j81, lx14, lx26, lx85, (-1074), t0_9, t0_10, hT0, (show 0 ≤ lx56.toInt from (by have z21 : (-1074 : Int32).toInt = -1074 := rfl; have t1 : 0 ≤ lx56.toInt := i59; omega)), (show lx56.toInt ≤ 1 from (by have z21 : (-1074 : Int32).toInt = -1074 := rfl; have t1 : lx56.toInt ≤ 1 := i60; omega)), (show 0 ≤ a72.toInt from (by have z21 : (-1074 : Int32).toInt = -1074 := rfl; have t1 : 0 ≤ a72.toInt ∧ a72.toInt ≤ lx26.toInt := b74; omega)), (show 23 ≤ lx14.toInt from (by have z21 : (-1074 : Int32).toInt = -1074 := rfl; have t1 : 23 ≤ lx14.toInt := i17; omega)), (show lx14.toInt ≤ 52 from (by have z21 : (-1074 : Int32).toInt = -1074 := rfl; have t1 : lx14.toInt ≤ 52 := i18; omega)), (show 255 ≤ lx26.toInt from (by have z21 : (-1074 : Int32).toInt = -1074 := rfl; have t1 : 255 ≤ lx26.toInt := i29; omega)), (show lx26.toInt ≤ 2047 from (by have z21 : (-1074 : Int32).toInt = -1074 := rfl; have t1 : lx26.toInt ≤ 2047 := i30; omega)), (show t0_0.toInt ≤ t0_0.toInt from (by have z21 : (-1074 : Int32).toInt = -1074 := rfl; omega)), (show t0_0.toInt ≤ t0_0.toInt from (by have z21 : (-1074 : Int32).toInt = -1074 := rfl; omega)), (show t0_1.toInt ≤ t0_1.toInt from (by have z21 : (-1074 : Int32).toInt = -1074 := rfl; omega)), (show t0_1.toInt ≤ t0_1.toInt from (by have z21 : (-1074 : Int32).toInt = -1074 := rfl; omega)), (show x3.toInt ≤ (-1074 : Int32).toInt + 1074 from (by have z21 : (-1074 : Int32).toInt = -1074 := rfl; have t1 : x3.toInt = 0 := b112; omega)), (show (-1074 : Int32).toInt ≤ x3.toInt + 1896 from (by have z21 : (-1074 : Int32).toInt = -1074 := rfl; have t1 : 0 ≤ x3.toInt ∧ x3.toInt ≤ 1 := hzx3; omega)), (show t0_9.toInt ≤ t0_9.toInt from (by have z21 : (-1074 : Int32).toInt = -1074 := rfl; omega)), (show t0_9.toInt ≤ t0_9.toInt from (by have z21 : (-1074 : Int32).toInt = -1074 := rfl; omega)), (show t0_10.toInt ≤ t0_10.toInt from (by have z21 : (-1074 : Int32).toInt = -1074 := rfl; omega)), (show t0_10.toInt ≤ t0_10.toInt from (by have z21 : (-1074 : Int32).toInt = -1074 := rfl; omega)), (show a72.toInt ≤ lx26.toInt from (by have z21 : (-1074 : Int32).toInt = -1074 := rfl; have t1 : 0 ≤ a72.toInt ∧ a72.toInt ≤ lx26.toInt := b74; omega)), (show (-1074 : Int32).toInt + 149 ≤ a72.toInt from (by have z21 : (-1074 : Int32).toInt = -1074 := rfl; have t1 : 0 ≤ a72.toInt ∧ a72.toInt ≤ lx26.toInt := b74; omega)), (show a72.toInt ≤ (-1074 : Int32).toInt + 1075 from (by have z21 : (-1074 : Int32).toInt = -1074 := rfl; have t1 : a72.toInt = 0 := b110; omega)), (show (-1074 : Int32).toInt + 150 ≤ lx26.toInt from (by have z21 : (-1074 : Int32).toInt = -1074 := rfl; have t1 : 255 ≤ lx26.toInt := i29; omega)), (show (t0_0, t0_1, lx56, a72, j81, lx14, lx26, lx85, (-1074 : Int32), t0_9, t0_10) = (F_FR_open x2 x3 t0_0 t0_1 t0_2 t0_3 t0_4 t0_5 t0_6 t0_7 t0_8 t0_9 t0_10) from Eq.trans (by rw [F_FR_open_J117.eq_1, if_pos c95, if_pos c111]) hR88)⟩) d_17_4_153
              ·
                refine lv_sipush (v := 150) hx hb d_17_4_140 (by decide) ?_
                refine lv_goto (tgt := 149) hx hb d_17_4_143 (by decide) ?_
                refine lv_isub hx hb d_17_4_149 ?_
                refine q_ti (v := (-149)) (by decide) ?_
                refine q_put (ci := 15) (j := 15) (v := .int (-149)) (ty := .int) C0 V i_FR o_FR n_FR rfl rfl hT0 (by decide) w_2091 rfl rfl rfl rfl (Nat.le_of_ble_eq_true rfl) d_17_4_150 (fun H locs w116 hu117 hT0 V => ?_)
                replace hT0 : w116[145]? = (some (q 145, .inr (15, [.int t0_0, .ref (q 146), .ref (q 147), .ref (q 148), .ref (q 149), .ref (q 150), .ref (q 151), .ref (q 152), .int t0_1, .int lx56, .int a72, .long j81, .int lx14, .int lx26, .long lx85, .int (-149), .long t0_9, .int t0_10])) : Option (Nat × va_E)) := hT0
                replace hI := n_p145 hI hu117 hT0 ⟨(by first | with_reducible exact q_fe i59 | (have t1 : 0 ≤ lx56.toInt := i59; omega)), (by first | with_reducible exact q_fe i60 | (have t1 : lx56.toInt ≤ 1 := i60; omega))⟩
                replace hF := q_us hF hu117 (by simp)
                exact q_retv C0 V (⟨hI, hF, t0_0, t0_1, lx56, a72, j81, lx14, lx26, lx85, (-149), t0_9, t0_10, hT0, (show 0 ≤ lx56.toInt from (by have z21 : (-149 : Int32).toInt = -149 := rfl; have t1 : 0 ≤ lx56.toInt := i59; omega)), (show lx56.toInt ≤ 1 from (by have z21 : (-149 : Int32).toInt = -149 := rfl; have t1 : lx56.toInt ≤ 1 := i60; omega)), (show 0 ≤ a72.toInt from (by have z21 : (-149 : Int32).toInt = -149 := rfl; have t1 : 0 ≤ a72.toInt ∧ a72.toInt ≤ lx26.toInt := b74; omega)), (show 23 ≤ lx14.toInt from (by have z21 : (-149 : Int32).toInt = -149 := rfl; have t1 : 23 ≤ lx14.toInt := i17; omega)), (show lx14.toInt ≤ 52 from (by have z21 : (-149 : Int32).toInt = -149 := rfl; have t1 : lx14.toInt ≤ 52 := i18; omega)), (show 255 ≤ lx26.toInt from (by have z21 : (-149 : Int32).toInt = -149 := rfl; have t1 : 255 ≤ lx26.toInt := i29; omega)), (show lx26.toInt ≤ 2047 from (by have z21 : (-149 : Int32).toInt = -149 := rfl; have t1 : lx26.toInt ≤ 2047 := i30; omega)), (show t0_0.toInt ≤ t0_0.toInt from (by have z21 : (-149 : Int32).toInt = -149 := rfl; omega)), (show t0_0.toInt ≤ t0_0.toInt from (by have z21 : (-149 : Int32).toInt = -149 := rfl; omega)), (show t0_1.toInt ≤ t0_1.toInt from (by have z21 : (-149 : Int32).toInt = -149 := rfl; omega)), (show t0_1.toInt ≤ t0_1.toInt from (by have z21 : (-149 : Int32).toInt = -149 := rfl; omega)), (show x3.toInt ≤ (-149 : Int32).toInt + 1074 from (by have z21 : (-149 : Int32).toInt = -149 := rfl; have t1 : 0 ≤ x3.toInt ∧ x3.toInt ≤ 1 := hzx3; omega)), (show (-149 : Int32).toInt ≤ x3.toInt + 1896 from (by have z21 : (-149 : Int32).toInt = -149 := rfl; have t1 : 0 ≤ x3.toInt ∧ x3.toInt ≤ 1 := hzx3; omega)), (show t0_9.toInt ≤ t0_9.toInt from (by have z21 : (-149 : Int32).toInt = -149 := rfl; omega)), (show t0_9.toInt ≤ t0_9.toInt from (by have z21 : (-149 : Int32).toInt = -149 := rfl; omega)), (show t0_10.toInt ≤ t0_10.toInt from (by have z21 : (-149 : Int32).toInt = -149 := rfl; omega)), (show t0_10.toInt ≤ t0_10.toInt from (by have z21 : (-149 : Int32).toInt = -149 := rfl; omega)), (show a72.toInt ≤ lx26.toInt from (by have z21 : (-149 : Int32).toInt = -149 := rfl; have t1 : 0 ≤ a72.toInt ∧ a72.toInt ≤ lx26.toInt := b74; omega)), (show (-149 : Int32).toInt + 149 ≤ a72.toInt from (by have z21 : (-149 : Int32).toInt = -149 := rfl; have t1 : 0 ≤ a72.toInt ∧ a72.toInt ≤ lx26.toInt := b74; omega)), (show a72.toInt ≤ (-149 : Int32).toInt + 1075 from (by have z21 : (-149 : Int32).toInt = -149 := rfl; have t1 : a72.toInt = 0 := b110; omega)), (show (-149 : Int32).toInt + 150 ≤ lx26.toInt from (by have z21 : (-149 : Int32).toInt = -149 := rfl; have t1 : 255 ≤ lx26.toInt := i29; omega)), (show (t0_0, t0_1, lx56, a72, j81, lx14, lx26, lx85, (-149 : Int32), t0_9, t0_10) = (F_FR_open x2 x3 t0_0 t0_1 t0_2 t0_3 t0_4 t0_5 t0_6 t0_7 t0_8 t0_9 t0_10) from Eq.trans (by rw [F_FR_open_J117.eq_1, if_pos c95, if_neg c111]) hR88)⟩) d_17_4_153
          ·
            intro J87
            refine lv_if_ne (tgt := 106) hx hb d_17_4_96 (by decide) (fun c118 => ?_) (fun c118 => ?_)
            ·
              refine lv_aload_n hx hb d_17_4_106 rfl (lv_at hl 0 rfl) ?_
              refine q_get (ci := 15) (j := 11) (v := .long j81) C0 V i_FR rfl rfl hT0 (by decide) w_2087 rfl d_17_4_107 ?_
              refine lv_lconst (v := 1) hx hb d_17_4_110 (by decide) ?_
              refine lv_aload_n hx hb d_17_4_111 rfl (lv_at hl 0 rfl) ?_
              refine q_get (ci := 15) (j := 12) (v := .int lx14) C0 V i_FR rfl rfl hT0 (by decide) w_2088 rfl d_17_4_112 ?_
              refine lv_lshl hx hb d_17_4_115 rfl ?_
              obtain ⟨j120, e121⟩ := q_nm ((1 : Int64) <<< (lx14.toInt64 &&& 63) : Int64)
              refine q_tl (v := j120) e121 ?_
              refine lv_ladd hx hb d_17_4_116 ?_
              obtain ⟨j122, e123⟩ := q_nm (j81 + j120 : Int64)
              refine q_tl (v := j122) e123 ?_
              exact J87 ((j122 : Int64)) _ _ _ w83 ⟨V, q_lw hl (q_lw1 0 rfl (q_lw1 2 rfl q_lw0)), (show F_FR_open_J117 x2 x3 t0_0 t0_1 t0_2 t0_3 t0_4 t0_5 t0_6 t0_7 t0_8 t0_9 t0_10 lx14 lx26 lx38 lx56 a72 j81 j122 = (F_FR_open x2 x3 t0_0 t0_1 t0_2 t0_3 t0_4 t0_5 t0_6 t0_7 t0_8 t0_9 t0_10) from Eq.trans (by have c118x := c118; rw [← e73, ← e71, ← e69] at c118x; rw [← e123, ← e121, ← e82, ← e80, ← e78, ← e73, ← e71, ← e69, F_FR_open_J58.eq_1, if_neg c118x]) hR61)⟩
            ·
              refine lv_aload_n hx hb d_17_4_99 rfl (lv_at hl 0 rfl) ?_
              refine q_get (ci := 15) (j := 11) (v := .long j81) C0 V i_FR rfl rfl hT0 (by decide) w_2087 rfl d_17_4_100 ?_
              refine lv_goto (tgt := 117) hx hb d_17_4_103 (by decide) ?_
              exact J87 ((j81 : Int64)) _ _ _ w83 ⟨V, q_lw hl (q_lw1 0 rfl (q_lw1 2 rfl q_lw0)), (show F_FR_open_J117 x2 x3 t0_0 t0_1 t0_2 t0_3 t0_4 t0_5 t0_6 t0_7 t0_8 t0_9 t0_10 lx14 lx26 lx38 lx56 a72 j81 j81 = (F_FR_open x2 x3 t0_0 t0_1 t0_2 t0_3 t0_4 t0_5 t0_6 t0_7 t0_8 t0_9 t0_10) from Eq.trans (by have c118x := c118; rw [← e73, ← e71, ← e69] at c118x; rw [← e82, ← e80, ← e78, ← e73, ← e71, ← e69, F_FR_open_J58.eq_1, if_pos c118x]) hR61)⟩
        ·
          intro J58
          refine lv_if_ne (tgt := 57) hx hb d_17_4_50 (by decide) (fun c125 => ?_) (fun c125 => ?_)
          ·
            refine lv_iconst (v := 0) hx hb d_17_4_57 (by decide) ?_
            exact J58 ((0 : Int32)) _ _ _ w36 ⟨(show q_F (0 ≤ 0) from (show 0 ≤ 0 from by omega)), (show q_F (0 ≤ 1) from (show 0 ≤ 1 from by omega)), V, q_lw hl (q_lw1 0 rfl (q_lw1 1 rfl (q_lw1 2 rfl q_lw0))), (show F_FR_open_J58 x2 x3 t0_0 t0_1 t0_2 t0_3 t0_4 t0_5 t0_6 t0_7 t0_8 t0_9 t0_10 lx14 lx26 lx38 0 = (F_FR_open x2 x3 t0_0 t0_1 t0_2 t0_3 t0_4 t0_5 t0_6 t0_7 t0_8 t0_9 t0_10) from Eq.trans (by have c125x := c125; rw [← e54, ← e51, ← e49] at c125x; rw [F_FR_open_J45.eq_1, if_neg c125x]) hR43)⟩
          ·
            refine lv_iconst (v := 1) hx hb d_17_4_53 (by decide) ?_
            refine lv_goto (tgt := 58) hx hb d_17_4_54 (by decide) ?_
            exact J58 ((1 : Int32)) _ _ _ w36 ⟨(show q_F (0 ≤ 1) from (show 0 ≤ 1 from by omega)), (show q_F (1 ≤ 1) from (show 1 ≤ 1 from by omega)), V, q_lw hl (q_lw1 0 rfl (q_lw1 1 rfl (q_lw1 2 rfl q_lw0))), (show F_FR_open_J58 x2 x3 t0_0 t0_1 t0_2 t0_3 t0_4 t0_5 t0_6 t0_7 t0_8 t0_9 t0_10 lx14 lx26 lx38 1 = (F_FR_open x2 x3 t0_0 t0_1 t0_2 t0_3 t0_4 t0_5 t0_6 t0_7 t0_8 t0_9 t0_10) from Eq.trans (by have c125x := c125; rw [← e54, ← e51, ← e49] at c125x; rw [F_FR_open_J45.eq_1, if_pos c125x]) hR43)⟩
      ·
        intro J40
        refine lv_if_eq (tgt := 43) hx hb d_17_4_35 (by decide) (fun c128 => ?_) (fun c128 => ?_)
        ·
          refine lv_bipush (v := 63) hx hb d_17_4_43 (by decide) ?_
          exact J40 ((63 : Int32)) _ _ _ w36 ⟨(show q_F (31 ≤ 63) from (show 31 ≤ 63 from by omega)), (show q_F (63 ≤ 63) from (show 63 ≤ 63 from by omega)), V, q_lw hl (q_lw1 0 rfl (q_lw1 1 rfl (q_lw1 2 rfl q_lw0))), (show F_FR_open_J45 x2 x3 t0_0 t0_1 t0_2 t0_3 t0_4 t0_5 t0_6 t0_7 t0_8 t0_9 t0_10 lx14 lx26 63 = (F_FR_open x2 x3 t0_0 t0_1 t0_2 t0_3 t0_4 t0_5 t0_6 t0_7 t0_8 t0_9 t0_10) from Eq.trans (by rw [F_FR_open_J29.eq_1, if_pos c128]) hR31)⟩
        ·
          refine lv_bipush (v := 31) hx hb d_17_4_38 (by decide) ?_
          refine lv_goto (tgt := 45) hx hb d_17_4_40 (by decide) ?_
          exact J40 ((31 : Int32)) _ _ _ w36 ⟨(show q_F (31 ≤ 31) from (show 31 ≤ 31 from by omega)), (show q_F (31 ≤ 63) from (show 31 ≤ 63 from by omega)), V, q_lw hl (q_lw1 0 rfl (q_lw1 1 rfl (q_lw1 2 rfl q_lw0))), (show F_FR_open_J45 x2 x3 t0_0 t0_1 t0_2 t0_3 t0_4 t0_5 t0_6 t0_7 t0_8 t0_9 t0_10 lx14 lx26 31 = (F_FR_open x2 x3 t0_0 t0_1 t0_2 t0_3 t0_4 t0_5 t0_6 t0_7 t0_8 t0_9 t0_10) from Eq.trans (by rw [F_FR_open_J29.eq_1, if_neg c128]) hR31)⟩
    ·
      intro J28
      refine lv_if_eq (tgt := 26) hx hb d_17_4_17 (by decide) (fun c131 => ?_) (fun c131 => ?_)
      ·
        refine lv_sipush (v := 2047) hx hb d_17_4_26 (by decide) ?_
        exact J28 ((2047 : Int32)) _ _ _ w24 ⟨(show q_F (255 ≤ 2047) from (show 255 ≤ 2047 from by omega)), (show q_F (2047 ≤ 2047) from (show 2047 ≤ 2047 from by omega)), V, q_lw hl (q_lw1 0 rfl (q_lw1 1 rfl (q_lw1 2 rfl q_lw0))), (show F_FR_open_J29 x2 x3 t0_0 t0_1 t0_2 t0_3 t0_4 t0_5 t0_6 t0_7 t0_8 t0_9 t0_10 lx14 2047 = (F_FR_open x2 x3 t0_0 t0_1 t0_2 t0_3 t0_4 t0_5 t0_6 t0_7 t0_8 t0_9 t0_10) from Eq.trans (by rw [F_FR_open_J12.eq_1, if_pos c131]) hR19)⟩
      ·
        refine lv_sipush (v := 255) hx hb d_17_4_20 (by decide) ?_
        refine lv_goto (tgt := 29) hx hb d_17_4_23 (by decide) ?_
        exact J28 ((255 : Int32)) _ _ _ w24 ⟨(show q_F (255 ≤ 255) from (show 255 ≤ 255 from by omega)), (show q_F (255 ≤ 2047) from (show 255 ≤ 2047 from by omega)), V, q_lw hl (q_lw1 0 rfl (q_lw1 1 rfl (q_lw1 2 rfl q_lw0))), (show F_FR_open_J29 x2 x3 t0_0 t0_1 t0_2 t0_3 t0_4 t0_5 t0_6 t0_7 t0_8 t0_9 t0_10 lx14 255 = (F_FR_open x2 x3 t0_0 t0_1 t0_2 t0_3 t0_4 t0_5 t0_6 t0_7 t0_8 t0_9 t0_10) from Eq.trans (by rw [F_FR_open_J12.eq_1, if_neg c131]) hR19)⟩
  ·
    intro J16
    refine lv_if_eq (tgt := 10) hx hb d_17_4_2 (by decide) (fun c134 => ?_) (fun c134 => ?_)
    ·
      refine lv_bipush (v := 52) hx hb d_17_4_10 (by decide) ?_
      exact J16 ((52 : Int32)) _ _ _ ws ⟨(show q_F (23 ≤ 52) from (show 23 ≤ 52 from by omega)), (show q_F (52 ≤ 52) from (show 52 ≤ 52 from by omega)), V, q_lw hl (q_lw1 0 rfl (q_lw1 1 rfl (q_lw1 2 rfl q_lw0))), (show F_FR_open_J12 x2 x3 t0_0 t0_1 t0_2 t0_3 t0_4 t0_5 t0_6 t0_7 t0_8 t0_9 t0_10 52 = (F_FR_open x2 x3 t0_0 t0_1 t0_2 t0_3 t0_4 t0_5 t0_6 t0_7 t0_8 t0_9 t0_10) from (by rw [F_FR_open.eq_1, if_pos c134]))⟩
    ·
      refine lv_bipush (v := 23) hx hb d_17_4_5 (by decide) ?_
      refine lv_goto (tgt := 12) hx hb d_17_4_7 (by decide) ?_
      exact J16 ((23 : Int32)) _ _ _ ws ⟨(show q_F (23 ≤ 23) from (show 23 ≤ 23 from by omega)), (show q_F (23 ≤ 52) from (show 23 ≤ 52 from by omega)), V, q_lw hl (q_lw1 0 rfl (q_lw1 1 rfl (q_lw1 2 rfl q_lw0))), (show F_FR_open_J12 x2 x3 t0_0 t0_1 t0_2 t0_3 t0_4 t0_5 t0_6 t0_7 t0_8 t0_9 t0_10 23 = (F_FR_open x2 x3 t0_0 t0_1 t0_2 t0_3 t0_4 t0_5 t0_6 t0_7 t0_8 t0_9 t0_10) from (by rw [F_FR_open.eq_1, if_neg c134]))⟩
theorem d_17_5_0 : decode prog_17_method_5_code 0 = .ok (.aload_n 0, 1) := by decide +kernel
theorem d_17_5_1 : decode prog_17_method_5_code 1 = .ok (.getfield 45, 3) := by decide +kernel
theorem d_17_5_4 : decode prog_17_method_5_code 4 = .ok (.aload_n 0, 1) := by decide +kernel
theorem d_17_5_5 : decode prog_17_method_5_code 5 = .ok (.getfield 38, 3) := by decide +kernel
theorem d_17_5_8 : decode prog_17_method_5_code 8 = .ok (.if_icmp .ge 7, 3) := by decide +kernel
theorem d_17_5_15 : decode prog_17_method_5_code 15 = .ok (.iconst 0, 1) := by decide +kernel
theorem d_17_5_16 : decode prog_17_method_5_code 16 = .ok (.ireturn, 1) := by decide +kernel
theorem d_17_5_11 : decode prog_17_method_5_code 11 = .ok (.iconst 1, 1) := by decide +kernel
theorem d_17_5_12 : decode prog_17_method_5_code 12 = .ok (.goto 4, 3) := by decide +kernel
def y_FR_isFinite : MethodName := ⟨"NumberHouseModel$FloatRows", "isFinite", "()Z"⟩
def F_FR_isFinite (t0_0 : Int32) (t0_1 : Int32) (t0_2 : Int32) (t0_3 : Int32) (t0_4 : Int64) (t0_5 : Int32) (t0_6 : Int32) (t0_7 : Int64) (t0_8 : Int32) (t0_9 : Int64) (t0_10 : Int32) : Int32 := if t0_6 ≤ t0_3 then ((0 : Int32)) else ((1 : Int32))
set_option maxRecDepth 100000 in
set_option maxHeartbeats 4000000 in
theorem X_FR_isFinite (l : Launch) (D : va_G) (g : Nat → ClassId) (q : Nat → Nat) (ws : va_W) (hI : q_I (msh g q) q ws) (t0_0 : Int32) (t0_1 : Int32) (t0_2 : Int32) (t0_3 : Int32) (t0_4 : Int64) (t0_5 : Int32) (t0_6 : Int32) (t0_7 : Int64) (t0_8 : Int32) (t0_9 : Int64) (t0_10 : Int32) (hT0 : ws[145]? = (some (q 145, .inr (15, [.int t0_0, .ref (q 146), .ref (q 147), .ref (q 148), .ref (q 149), .ref (q 150), .ref (q 151), .ref (q 152), .int t0_1, .int t0_2, .int t0_3, .long t0_4, .int t0_5, .int t0_6, .long t0_7, .int t0_8, .long t0_9, .int t0_10])) : Option (Nat × va_E))) : q_mI l y_FR_isFinite prog_17_method_5_code 1 (.boolean) 1 0 0 D g [.ref (q 145)] ws (fun r u => ws = u ∧ (0 ≤ r.toInt) ∧ (r.toInt ≤ 1) ∧ r = (F_FR_isFinite t0_0 t0_1 t0_2 t0_3 t0_4 t0_5 t0_6 t0_7 t0_8 t0_9 t0_10)) := by
  intro sz
  refine q_into (by decide) (Nat.le_of_ble_eq_true rfl) ?_
  intro p e s m below meth c ls hsz C0 V hl
  have hx := C0.1
  have hb := C0.2.1
  have btt0_2 := n_w145 hI hT0
  clear btt0_2
  have hl : lv_has ls 1 [(0, .ref (q 145))] := hl
  refine lv_aload_n hx hb d_17_5_0 rfl (lv_at hl 0 rfl) ?_
  refine q_get (ci := 15) (j := 10) (v := .int t0_3) C0 V i_FR rfl rfl hT0 (by decide) w_2086 rfl d_17_5_1 ?_
  refine lv_aload_n hx hb d_17_5_4 rfl (lv_at hl 0 rfl) ?_
  refine q_get (ci := 15) (j := 13) (v := .int t0_6) C0 V i_FR rfl rfl hT0 (by decide) w_2089 rfl d_17_5_5 ?_
  refine lv_icmp_ge (tgt := 15) hx hb d_17_5_8 (by decide) (fun c14 => ?_) (fun c14 => ?_)
  ·
    refine lv_iconst (v := 0) hx hb d_17_5_15 (by decide) ?_
    exact q_retz C0 V (by decide) (⟨rfl, (show 0 ≤ (0 : Int32).toInt from (by have z11 : (0 : Int32).toInt = 0 := rfl; omega)), (show (0 : Int32).toInt ≤ 1 from (by have z11 : (0 : Int32).toInt = 0 := rfl; omega)), (show (0 : Int32) = (F_FR_isFinite t0_0 t0_1 t0_2 t0_3 t0_4 t0_5 t0_6 t0_7 t0_8 t0_9 t0_10) from (by rw [F_FR_isFinite.eq_1, if_pos c14]))⟩) d_17_5_16
  ·
    refine lv_iconst (v := 1) hx hb d_17_5_11 (by decide) ?_
    refine lv_goto (tgt := 16) hx hb d_17_5_12 (by decide) ?_
    exact q_retz C0 V (by decide) (⟨rfl, (show 0 ≤ (1 : Int32).toInt from (by have z11 : (1 : Int32).toInt = 1 := rfl; omega)), (show (1 : Int32).toInt ≤ 1 from (by have z11 : (1 : Int32).toInt = 1 := rfl; omega)), (show (1 : Int32) = (F_FR_isFinite t0_0 t0_1 t0_2 t0_3 t0_4 t0_5 t0_6 t0_7 t0_8 t0_9 t0_10) from (by rw [F_FR_isFinite.eq_1, if_neg c14]))⟩) d_17_5_16
theorem d_17_6_0 : decode prog_17_method_6_code 0 = .ok (.iconst 0, 1) := by decide +kernel
theorem d_17_6_1 : decode prog_17_method_6_code 1 = .ok (.istore_n 2, 1) := by decide +kernel
theorem d_17_6_2 : decode prog_17_method_6_code 2 = .ok (.iload_n 2, 1) := by decide +kernel
theorem d_17_6_3 : decode prog_17_method_6_code 3 = .ok (.sipush 156, 3) := by decide +kernel
theorem d_17_6_6 : decode prog_17_method_6_code 6 = .ok (.if_icmp .ge 26, 3) := by decide +kernel
theorem d_17_6_32 : decode prog_17_method_6_code 32 = .ok (.iload_n 1, 1) := by decide +kernel
theorem d_17_6_33 : decode prog_17_method_6_code 33 = .ok (.istore_n 2, 1) := by decide +kernel
theorem d_17_6_34 : decode prog_17_method_6_code 34 = .ok (.iload_n 2, 1) := by decide +kernel
theorem d_17_6_35 : decode prog_17_method_6_code 35 = .ok (.ifCond .le 68, 3) := by decide +kernel
theorem d_17_6_103 : decode prog_17_method_6_code 103 = .ok (.iload_n 1, 1) := by decide +kernel
theorem d_17_6_104 : decode prog_17_method_6_code 104 = .ok (.istore_n 2, 1) := by decide +kernel
theorem d_17_6_105 : decode prog_17_method_6_code 105 = .ok (.iload_n 2, 1) := by decide +kernel
theorem d_17_6_106 : decode prog_17_method_6_code 106 = .ok (.ifCond .ge 57, 3) := by decide +kernel
theorem d_17_6_163 : decode prog_17_method_6_code 163 = .ok (.return_, 1) := by decide +kernel
theorem d_17_6_109 : decode prog_17_method_6_code 109 = .ok (.iconst 0, 1) := by decide +kernel
theorem d_17_6_110 : decode prog_17_method_6_code 110 = .ok (.istore_n 3, 1) := by decide +kernel
theorem d_17_6_111 : decode prog_17_method_6_code 111 = .ok (.sipush 155, 3) := by decide +kernel
theorem d_17_6_114 : decode prog_17_method_6_code 114 = .ok (.istore 4, 2) := by decide +kernel
theorem d_17_6_116 : decode prog_17_method_6_code 116 = .ok (.iload 4, 2) := by decide +kernel
theorem d_17_6_118 : decode prog_17_method_6_code 118 = .ok (.ifCond .lt 39, 3) := by decide +kernel
theorem d_17_6_157 : decode prog_17_method_6_code 157 = .ok (.iinc 2 1, 3) := by decide +kernel
theorem d_17_6_160 : decode prog_17_method_6_code 160 = .ok (.goto (-55), 3) := by decide +kernel
theorem d_17_6_121 : decode prog_17_method_6_code 121 = .ok (.aload_n 0, 1) := by decide +kernel
theorem d_17_6_122 : decode prog_17_method_6_code 122 = .ok (.getfield 7, 3) := by decide +kernel
theorem d_17_6_125 : decode prog_17_method_6_code 125 = .ok (.iload 4, 2) := by decide +kernel
theorem d_17_6_127 : decode prog_17_method_6_code 127 = .ok (.iaload, 1) := by decide +kernel
theorem d_17_6_128 : decode prog_17_method_6_code 128 = .ok (.iload_n 3, 1) := by decide +kernel
theorem d_17_6_129 : decode prog_17_method_6_code 129 = .ok (.ldc 58, 2) := by decide +kernel
set_option maxRecDepth 100000 in
theorem w_2608 : (Cond.constant "NumberHouseModel$FloatRows" (58 : Nat) (1000000000 : Int32)) ∈ q_tbl := q_of11 208 rfl (by decide +kernel)
theorem d_17_6_131 : decode prog_17_method_6_code 131 = .ok (.imul, 1) := by decide +kernel
theorem d_17_6_132 : decode prog_17_method_6_code 132 = .ok (.iadd, 1) := by decide +kernel
theorem d_17_6_133 : decode prog_17_method_6_code 133 = .ok (.istore 5, 2) := by decide +kernel
theorem d_17_6_135 : decode prog_17_method_6_code 135 = .ok (.iload 5, 2) := by decide +kernel
theorem d_17_6_137 : decode prog_17_method_6_code 137 = .ok (.iconst 1, 1) := by decide +kernel
theorem d_17_6_138 : decode prog_17_method_6_code 138 = .ok (.iand, 1) := by decide +kernel
theorem d_17_6_139 : decode prog_17_method_6_code 139 = .ok (.istore_n 3, 1) := by decide +kernel
theorem d_17_6_140 : decode prog_17_method_6_code 140 = .ok (.aload_n 0, 1) := by decide +kernel
theorem d_17_6_141 : decode prog_17_method_6_code 141 = .ok (.getfield 7, 3) := by decide +kernel
theorem d_17_6_144 : decode prog_17_method_6_code 144 = .ok (.iload 4, 2) := by decide +kernel
theorem d_17_6_146 : decode prog_17_method_6_code 146 = .ok (.iload 5, 2) := by decide +kernel
theorem d_17_6_148 : decode prog_17_method_6_code 148 = .ok (.iconst 2, 1) := by decide +kernel
theorem d_17_6_149 : decode prog_17_method_6_code 149 = .ok (.idiv, 1) := by decide +kernel
theorem d_17_6_150 : decode prog_17_method_6_code 150 = .ok (.iastore, 1) := by decide +kernel
theorem d_17_6_151 : decode prog_17_method_6_code 151 = .ok (.iinc 4 (-1), 3) := by decide +kernel
theorem d_17_6_154 : decode prog_17_method_6_code 154 = .ok (.goto (-38), 3) := by decide +kernel
theorem d_17_6_38 : decode prog_17_method_6_code 38 = .ok (.iconst 0, 1) := by decide +kernel
theorem d_17_6_39 : decode prog_17_method_6_code 39 = .ok (.istore_n 3, 1) := by decide +kernel
theorem d_17_6_40 : decode prog_17_method_6_code 40 = .ok (.iconst 0, 1) := by decide +kernel
theorem d_17_6_41 : decode prog_17_method_6_code 41 = .ok (.istore 4, 2) := by decide +kernel
theorem d_17_6_43 : decode prog_17_method_6_code 43 = .ok (.iload 4, 2) := by decide +kernel
theorem d_17_6_45 : decode prog_17_method_6_code 45 = .ok (.sipush 156, 3) := by decide +kernel
theorem d_17_6_48 : decode prog_17_method_6_code 48 = .ok (.if_icmp .ge 49, 3) := by decide +kernel
theorem d_17_6_97 : decode prog_17_method_6_code 97 = .ok (.iinc 2 (-1), 3) := by decide +kernel
theorem d_17_6_100 : decode prog_17_method_6_code 100 = .ok (.goto (-66), 3) := by decide +kernel
theorem d_17_6_51 : decode prog_17_method_6_code 51 = .ok (.iconst 2, 1) := by decide +kernel
theorem d_17_6_52 : decode prog_17_method_6_code 52 = .ok (.aload_n 0, 1) := by decide +kernel
theorem d_17_6_53 : decode prog_17_method_6_code 53 = .ok (.getfield 7, 3) := by decide +kernel
theorem d_17_6_56 : decode prog_17_method_6_code 56 = .ok (.iload 4, 2) := by decide +kernel
theorem d_17_6_58 : decode prog_17_method_6_code 58 = .ok (.iaload, 1) := by decide +kernel
theorem d_17_6_59 : decode prog_17_method_6_code 59 = .ok (.imul, 1) := by decide +kernel
theorem d_17_6_60 : decode prog_17_method_6_code 60 = .ok (.iload_n 3, 1) := by decide +kernel
theorem d_17_6_61 : decode prog_17_method_6_code 61 = .ok (.iadd, 1) := by decide +kernel
theorem d_17_6_62 : decode prog_17_method_6_code 62 = .ok (.istore 5, 2) := by decide +kernel
theorem d_17_6_64 : decode prog_17_method_6_code 64 = .ok (.iload 5, 2) := by decide +kernel
theorem d_17_6_66 : decode prog_17_method_6_code 66 = .ok (.ldc 58, 2) := by decide +kernel
theorem d_17_6_68 : decode prog_17_method_6_code 68 = .ok (.if_icmp .lt 7, 3) := by decide +kernel
theorem d_17_6_75 : decode prog_17_method_6_code 75 = .ok (.iconst 0, 1) := by decide +kernel
theorem d_17_6_76 : decode prog_17_method_6_code 76 = .ok (.istore_n 3, 1) := by decide +kernel
theorem d_17_6_77 : decode prog_17_method_6_code 77 = .ok (.aload_n 0, 1) := by decide +kernel
theorem d_17_6_78 : decode prog_17_method_6_code 78 = .ok (.getfield 7, 3) := by decide +kernel
theorem d_17_6_81 : decode prog_17_method_6_code 81 = .ok (.iload 4, 2) := by decide +kernel
theorem d_17_6_83 : decode prog_17_method_6_code 83 = .ok (.iload 5, 2) := by decide +kernel
theorem d_17_6_85 : decode prog_17_method_6_code 85 = .ok (.iload_n 3, 1) := by decide +kernel
theorem d_17_6_86 : decode prog_17_method_6_code 86 = .ok (.ldc 58, 2) := by decide +kernel
theorem d_17_6_88 : decode prog_17_method_6_code 88 = .ok (.imul, 1) := by decide +kernel
theorem d_17_6_89 : decode prog_17_method_6_code 89 = .ok (.isub, 1) := by decide +kernel
theorem d_17_6_90 : decode prog_17_method_6_code 90 = .ok (.iastore, 1) := by decide +kernel
theorem d_17_6_91 : decode prog_17_method_6_code 91 = .ok (.iinc 4 1, 3) := by decide +kernel
theorem d_17_6_94 : decode prog_17_method_6_code 94 = .ok (.goto (-51), 3) := by decide +kernel
theorem d_17_6_71 : decode prog_17_method_6_code 71 = .ok (.iconst 1, 1) := by decide +kernel
theorem d_17_6_72 : decode prog_17_method_6_code 72 = .ok (.goto 4, 3) := by decide +kernel
theorem d_17_6_9 : decode prog_17_method_6_code 9 = .ok (.aload_n 0, 1) := by decide +kernel
theorem d_17_6_10 : decode prog_17_method_6_code 10 = .ok (.getfield 7, 3) := by decide +kernel
theorem d_17_6_13 : decode prog_17_method_6_code 13 = .ok (.iload_n 2, 1) := by decide +kernel
theorem d_17_6_14 : decode prog_17_method_6_code 14 = .ok (.iload_n 2, 1) := by decide +kernel
theorem d_17_6_15 : decode prog_17_method_6_code 15 = .ok (.bipush 120, 2) := by decide +kernel
theorem d_17_6_17 : decode prog_17_method_6_code 17 = .ok (.if_icmp .ne 7, 3) := by decide +kernel
theorem d_17_6_24 : decode prog_17_method_6_code 24 = .ok (.iconst 0, 1) := by decide +kernel
theorem d_17_6_25 : decode prog_17_method_6_code 25 = .ok (.iastore, 1) := by decide +kernel
theorem d_17_6_26 : decode prog_17_method_6_code 26 = .ok (.iinc 2 1, 3) := by decide +kernel
theorem d_17_6_29 : decode prog_17_method_6_code 29 = .ok (.goto (-27), 3) := by decide +kernel
theorem d_17_6_20 : decode prog_17_method_6_code 20 = .ok (.iconst 1, 1) := by decide +kernel
theorem d_17_6_21 : decode prog_17_method_6_code 21 = .ok (.goto 4, 3) := by decide +kernel
def y_FR_setUnit : MethodName := ⟨"NumberHouseModel$FloatRows", "setUnit", "(I)V"⟩
def F_FR_setUnit_L116 (K_F_FR_setUnit_L2 : Int32 → (Nat → Int32) → (Nat → Int32)) (K_F_FR_setUnit_L34 : Int32 → (Nat → Int32) → (Nat → Int32)) (K_F_FR_setUnit_L105 : Int32 → (Nat → Int32) → (Nat → Int32)) (x2 : Int32) (t0_0 : Int32) (t0_1 : Int32) (t0_2 : Int32) (t0_3 : Int32) (t0_4 : Int64) (t0_5 : Int32) (t0_6 : Int32) (t0_7 : Int64) (t0_8 : Int32) (t0_9 : Int64) (t0_10 : Int32) (t1_0 : (Nat → Int32)) (lx18 : Int32) (lx19 : (Nat → Int32)) (lx34 : Int32) (lx35 : (Nat → Int32)) (lx49 : Int32) (lx50 : (Nat → Int32)) : Nat → Int32 → Int32 → (Nat → Int32) → (Nat → Int32)
  | 0, _, _, _ => default
  | fm + 1, lx66, lx67, lx68 => if lx66 < (0 : Int32) then (K_F_FR_setUnit_L105 (lx49 + 1 : Int32) lx68) else (F_FR_setUnit_L116 K_F_FR_setUnit_L2 K_F_FR_setUnit_L34 K_F_FR_setUnit_L105 x2 t0_0 t0_1 t0_2 t0_3 t0_4 t0_5 t0_6 t0_7 t0_8 t0_9 t0_10 t1_0 lx18 lx19 lx34 lx35 lx49 lx50 fm (lx66 + (-1) : Int32) (((lx68 lx66.toNatClampNeg : Int32) + (lx67 * 1000000000 : Int32) : Int32) &&& 1 : Int32) (upd lx68 lx66.toNatClampNeg (((lx68 lx66.toNatClampNeg : Int32) + (lx67 * 1000000000 : Int32) : Int32) / 2 : Int32) : (Nat → Int32)))
def F_FR_setUnit_L105 (K_F_FR_setUnit_L2 : Int32 → (Nat → Int32) → (Nat → Int32)) (K_F_FR_setUnit_L34 : Int32 → (Nat → Int32) → (Nat → Int32)) (x2 : Int32) (t0_0 : Int32) (t0_1 : Int32) (t0_2 : Int32) (t0_3 : Int32) (t0_4 : Int64) (t0_5 : Int32) (t0_6 : Int32) (t0_7 : Int64) (t0_8 : Int32) (t0_9 : Int64) (t0_10 : Int32) (t1_0 : (Nat → Int32)) (lx18 : Int32) (lx19 : (Nat → Int32)) (lx34 : Int32) (lx35 : (Nat → Int32)) : Nat → Int32 → (Nat → Int32) → (Nat → Int32)
  | 0, _, _ => default
  | fm + 1, lx49, lx50 => if (0 : Int32) ≤ lx49 then (lx50) else (F_FR_setUnit_L116 K_F_FR_setUnit_L2 K_F_FR_setUnit_L34 (F_FR_setUnit_L105 K_F_FR_setUnit_L2 K_F_FR_setUnit_L34 x2 t0_0 t0_1 t0_2 t0_3 t0_4 t0_5 t0_6 t0_7 t0_8 t0_9 t0_10 t1_0 lx18 lx19 lx34 lx35 fm) x2 t0_0 t0_1 t0_2 t0_3 t0_4 t0_5 t0_6 t0_7 t0_8 t0_9 t0_10 t1_0 lx18 lx19 lx34 lx35 lx49 lx50 (((155 : Int32).toInt - ((-1))).toNat + 1) 155 0 lx50)
def F_FR_setUnit_L43 (K_F_FR_setUnit_L2 : Int32 → (Nat → Int32) → (Nat → Int32)) (K_F_FR_setUnit_L34 : Int32 → (Nat → Int32) → (Nat → Int32)) (x2 : Int32) (t0_0 : Int32) (t0_1 : Int32) (t0_2 : Int32) (t0_3 : Int32) (t0_4 : Int64) (t0_5 : Int32) (t0_6 : Int32) (t0_7 : Int64) (t0_8 : Int32) (t0_9 : Int64) (t0_10 : Int32) (t1_0 : (Nat → Int32)) (lx18 : Int32) (lx19 : (Nat → Int32)) (lx34 : Int32) (lx35 : (Nat → Int32)) : Nat → Int32 → Int32 → (Nat → Int32) → (Nat → Int32)
  | 0, _, _, _ => default
  | fm + 1, lx111, lx112, lx113 => if (156 : Int32) ≤ lx111 then (K_F_FR_setUnit_L34 (lx34 + (-1) : Int32) lx113) else (if ((2 * (lx113 lx111.toNatClampNeg : Int32) : Int32) + lx112 : Int32) < (1000000000 : Int32) then (F_FR_setUnit_L43 K_F_FR_setUnit_L2 K_F_FR_setUnit_L34 x2 t0_0 t0_1 t0_2 t0_3 t0_4 t0_5 t0_6 t0_7 t0_8 t0_9 t0_10 t1_0 lx18 lx19 lx34 lx35 fm (lx111 + 1 : Int32) 0 (upd lx113 lx111.toNatClampNeg (((2 * (lx113 lx111.toNatClampNeg : Int32) : Int32) + lx112 : Int32) - 0 : Int32) : (Nat → Int32))) else (F_FR_setUnit_L43 K_F_FR_setUnit_L2 K_F_FR_setUnit_L34 x2 t0_0 t0_1 t0_2 t0_3 t0_4 t0_5 t0_6 t0_7 t0_8 t0_9 t0_10 t1_0 lx18 lx19 lx34 lx35 fm (lx111 + 1 : Int32) 1 (upd lx113 lx111.toNatClampNeg (((2 * (lx113 lx111.toNatClampNeg : Int32) : Int32) + lx112 : Int32) - 1000000000 : Int32) : (Nat → Int32))))
def F_FR_setUnit_L34 (K_F_FR_setUnit_L2 : Int32 → (Nat → Int32) → (Nat → Int32)) (x2 : Int32) (t0_0 : Int32) (t0_1 : Int32) (t0_2 : Int32) (t0_3 : Int32) (t0_4 : Int64) (t0_5 : Int32) (t0_6 : Int32) (t0_7 : Int64) (t0_8 : Int32) (t0_9 : Int64) (t0_10 : Int32) (t1_0 : (Nat → Int32)) (lx18 : Int32) (lx19 : (Nat → Int32)) : Nat → Int32 → (Nat → Int32) → (Nat → Int32)
  | 0, _, _ => default
  | fm + 1, lx34, lx35 => if lx34 ≤ (0 : Int32) then (F_FR_setUnit_L105 K_F_FR_setUnit_L2 (F_FR_setUnit_L34 K_F_FR_setUnit_L2 x2 t0_0 t0_1 t0_2 t0_3 t0_4 t0_5 t0_6 t0_7 t0_8 t0_9 t0_10 t1_0 lx18 lx19 fm) x2 t0_0 t0_1 t0_2 t0_3 t0_4 t0_5 t0_6 t0_7 t0_8 t0_9 t0_10 t1_0 lx18 lx19 lx34 lx35 ((0 - x2.toInt).toNat + 1) x2 lx35) else (F_FR_setUnit_L43 K_F_FR_setUnit_L2 (F_FR_setUnit_L34 K_F_FR_setUnit_L2 x2 t0_0 t0_1 t0_2 t0_3 t0_4 t0_5 t0_6 t0_7 t0_8 t0_9 t0_10 t1_0 lx18 lx19 fm) x2 t0_0 t0_1 t0_2 t0_3 t0_4 t0_5 t0_6 t0_7 t0_8 t0_9 t0_10 t1_0 lx18 lx19 lx34 lx35 ((156 - (0 : Int32).toInt).toNat + 1) 0 0 lx35)
def F_FR_setUnit_L2 (x2 : Int32) (t0_0 : Int32) (t0_1 : Int32) (t0_2 : Int32) (t0_3 : Int32) (t0_4 : Int64) (t0_5 : Int32) (t0_6 : Int32) (t0_7 : Int64) (t0_8 : Int32) (t0_9 : Int64) (t0_10 : Int32) (t1_0 : (Nat → Int32)) : Nat → Int32 → (Nat → Int32) → (Nat → Int32)
  | 0, _, _ => default
  | fm + 1, lx18, lx19 => if (156 : Int32) ≤ lx18 then (F_FR_setUnit_L34 (F_FR_setUnit_L2 x2 t0_0 t0_1 t0_2 t0_3 t0_4 t0_5 t0_6 t0_7 t0_8 t0_9 t0_10 t1_0 fm) x2 t0_0 t0_1 t0_2 t0_3 t0_4 t0_5 t0_6 t0_7 t0_8 t0_9 t0_10 t1_0 lx18 lx19 ((x2.toInt - ((-1))).toNat + 1) x2 lx19) else (if lx18 = (120 : Int32) then (F_FR_setUnit_L2 x2 t0_0 t0_1 t0_2 t0_3 t0_4 t0_5 t0_6 t0_7 t0_8 t0_9 t0_10 t1_0 fm (lx18 + 1 : Int32) (upd lx19 lx18.toNatClampNeg 1 : (Nat → Int32))) else (F_FR_setUnit_L2 x2 t0_0 t0_1 t0_2 t0_3 t0_4 t0_5 t0_6 t0_7 t0_8 t0_9 t0_10 t1_0 fm (lx18 + 1 : Int32) (upd lx19 lx18.toNatClampNeg 0 : (Nat → Int32))))
def F_FR_setUnit (x2 : Int32) (t0_0 : Int32) (t0_1 : Int32) (t0_2 : Int32) (t0_3 : Int32) (t0_4 : Int64) (t0_5 : Int32) (t0_6 : Int32) (t0_7 : Int64) (t0_8 : Int32) (t0_9 : Int64) (t0_10 : Int32) (t1_0 : (Nat → Int32)) : (Nat → Int32) := F_FR_setUnit_L2 x2 t0_0 t0_1 t0_2 t0_3 t0_4 t0_5 t0_6 t0_7 t0_8 t0_9 t0_10 t1_0 ((156 - (0 : Int32).toInt).toNat + 1) 0 t1_0
set_option maxRecDepth 100000 in
set_option maxHeartbeats 4000000 in
theorem X_FR_setUnit (l : Launch) (D : va_G) (g : Nat → ClassId) (q : Nat → Nat) (ws : va_W) (x2 : Int32) (hI : q_I (msh g q) q ws) (t0_0 : Int32) (t0_1 : Int32) (t0_2 : Int32) (t0_3 : Int32) (t0_4 : Int64) (t0_5 : Int32) (t0_6 : Int32) (t0_7 : Int64) (t0_8 : Int32) (t0_9 : Int64) (t0_10 : Int32) (hT0 : ws[145]? = (some (q 145, .inr (15, [.int t0_0, .ref (q 146), .ref (q 147), .ref (q 148), .ref (q 149), .ref (q 150), .ref (q 151), .ref (q 152), .int t0_1, .int t0_2, .int t0_3, .long t0_4, .int t0_5, .int t0_6, .long t0_7, .int t0_8, .long t0_9, .int t0_10])) : Option (Nat × va_E))) (t1_0 : (Nat → Int32)) (hT1 : ws[146]? = (some (q 146, .inl (g 0, (156 : Int32).toNatClampNeg, .inl t1_0)) : Option (Nat × va_E))) : q_mV l y_FR_setUnit prog_17_method_6_code 6 1 0 0 D g [.ref (q 145), .int x2] ws (fun u => q_I (msh g q) q u ∧ q_un ws u [146] ∧ ∃ (u1_0 : (Nat → Int32)), u[146]? = (some (q 146, .inl (g 0, (156 : Int32).toNatClampNeg, .inl u1_0)) : Option (Nat × va_E)) ∧ u1_0 = (F_FR_setUnit x2 t0_0 t0_1 t0_2 t0_3 t0_4 t0_5 t0_6 t0_7 t0_8 t0_9 t0_10 t1_0)) := by
  intro sz
  refine q_into (by decide) (Nat.le_of_ble_eq_true rfl) ?_
  intro p e s m below meth c ls hsz C0 V hl
  have hx := C0.1
  have hb := C0.2.1
  have btt0_2 := n_w145 hI hT0
  clear btt0_2
  have hF : q_un ws ws [146] := q_u0
  have hl : lv_has ls 6 [(0, .ref (q 145)), (1, .int x2)] := hl
  refine lv_iconst (v := 0) hx hb d_17_6_0 (by decide) ?_
  refine lv_istore_n (lv' := [(2, .int 0), (0, .ref (q 145)), (1, .int x2)]) hx hb d_17_6_1 rfl hl (by decide) rfl (fun ls hl => ?_)
  refine q_loop (X := Int32 × (Nat → Int32)) (fun z H locs ls w23 => q_F (0 ≤ z.1.toInt) ∧ q_F (z.1.toInt ≤ 156) ∧ q_Wd D g (va_A ws sz) s w23 H locs ∧ lv_has ls 6 [(2, .int z.1), (0, .ref (q 145)), (1, .int x2)] ∧ q_I (msh g q) q w23 ∧ q_un ws w23 [146] ∧ w23[145]? = (some (q 145, .inr (15, [.int t0_0, .ref (q 146), .ref (q 147), .ref (q 148), .ref (q 149), .ref (q 150), .ref (q 151), .ref (q 152), .int t0_1, .int t0_2, .int t0_3, .long t0_4, .int t0_5, .int t0_6, .long t0_7, .int t0_8, .long t0_9, .int t0_10])) : Option (Nat × va_E)) ∧ w23[146]? = (some (q 146, .inl (g 0, (156 : Int32).toNatClampNeg, .inl z.2)) : Option (Nat × va_E)) ∧ (∃ n, (156 - z.1.toInt).toNat < n ∧ F_FR_setUnit_L2 x2 t0_0 t0_1 t0_2 t0_3 t0_4 t0_5 t0_6 t0_7 t0_8 t0_9 t0_10 t1_0 n z.1 z.2 = (F_FR_setUnit x2 t0_0 t0_1 t0_2 t0_3 t0_4 t0_5 t0_6 t0_7 t0_8 t0_9 t0_10 t1_0))) (fun z => (156 - z.1.toInt).toNat) ?_ ((0 : Int32), (t1_0 : (Nat → Int32))) _ _ _ ws ⟨(show q_F (0 ≤ 0) from (show 0 ≤ 0 from by omega)), (show q_F (0 ≤ 156) from (show 0 ≤ 156 from by omega)), V, q_lw hl (q_lw1 0 rfl (q_lw1 1 rfl (q_lw1 2 rfl q_lw0))), hI, hF, hT0, hT1, ⟨((156 - (0 : Int32).toInt).toNat + 1), Nat.lt_succ_self _, (show F_FR_setUnit_L2 x2 t0_0 t0_1 t0_2 t0_3 t0_4 t0_5 t0_6 t0_7 t0_8 t0_9 t0_10 t1_0 ((156 - (0 : Int32).toInt).toNat + 1) 0 t1_0 = (F_FR_setUnit x2 t0_0 t0_1 t0_2 t0_3 t0_4 t0_5 t0_6 t0_7 t0_8 t0_9 t0_10 t1_0) from (by rw [F_FR_setUnit.eq_1]))⟩⟩
  rintro ⟨lx18, lx19⟩ H locs ls w23 ⟨i20, i21, V, hl, hI, hF, hO24, hO25, ⟨fu28, hf29, hR26⟩⟩ ih22
  obtain ⟨fm30, rfl⟩ : ∃ m, fu28 = m + 1 := ⟨fu28 - 1, by omega⟩
  replace i20 : q_F (0 ≤ lx18.toInt) := i20
  replace i21 : q_F (lx18.toInt ≤ 156) := i21
  replace hl : lv_has ls 6 [(2, .int lx18), (0, .ref (q 145)), (1, .int x2)] := hl
  replace hO24 : w23[145]? = (some (q 145, .inr (15, [.int t0_0, .ref (q 146), .ref (q 147), .ref (q 148), .ref (q 149), .ref (q 150), .ref (q 151), .ref (q 152), .int t0_1, .int t0_2, .int t0_3, .long t0_4, .int t0_5, .int t0_6, .long t0_7, .int t0_8, .long t0_9, .int t0_10])) : Option (Nat × va_E)) := hO24
  replace hO25 : w23[146]? = (some (q 146, .inl (g 0, (156 : Int32).toNatClampNeg, .inl lx19)) : Option (Nat × va_E)) := hO25
  refine lv_iload_n hx hb d_17_6_2 rfl (lv_at hl 0 rfl) ?_
  refine lv_sipush (v := 156) hx hb d_17_6_3 (by decide) ?_
  refine lv_icmp_ge (tgt := 32) hx hb d_17_6_6 (by decide) (fun c31 => ?_) (fun c31 => ?_)
  ·
    refine lv_iload_n hx hb d_17_6_32 rfl (lv_at hl 2 rfl) ?_
    refine lv_istore_n (lv' := [(2, .int x2), (0, .ref (q 145)), (1, .int x2)]) hx hb d_17_6_33 rfl hl (by decide) rfl (fun ls hl => ?_)
    refine q_loop (X := Int32 × (Nat → Int32)) (fun z H locs ls w38 => q_F (z.1.toInt ≤ x2.toInt) ∧ q_Wd D g (va_A ws sz) s w38 H locs ∧ lv_has ls 6 [(2, .int z.1), (0, .ref (q 145)), (1, .int x2)] ∧ q_I (msh g q) q w38 ∧ q_un ws w38 [146] ∧ w38[145]? = (some (q 145, .inr (15, [.int t0_0, .ref (q 146), .ref (q 147), .ref (q 148), .ref (q 149), .ref (q 150), .ref (q 151), .ref (q 152), .int t0_1, .int t0_2, .int t0_3, .long t0_4, .int t0_5, .int t0_6, .long t0_7, .int t0_8, .long t0_9, .int t0_10])) : Option (Nat × va_E)) ∧ w38[146]? = (some (q 146, .inl (g 0, (156 : Int32).toNatClampNeg, .inl z.2)) : Option (Nat × va_E)) ∧ (∃ n, (z.1.toInt - ((-1))).toNat < n ∧ F_FR_setUnit_L34 (F_FR_setUnit_L2 x2 t0_0 t0_1 t0_2 t0_3 t0_4 t0_5 t0_6 t0_7 t0_8 t0_9 t0_10 t1_0 fm30) x2 t0_0 t0_1 t0_2 t0_3 t0_4 t0_5 t0_6 t0_7 t0_8 t0_9 t0_10 t1_0 lx18 lx19 n z.1 z.2 = (F_FR_setUnit x2 t0_0 t0_1 t0_2 t0_3 t0_4 t0_5 t0_6 t0_7 t0_8 t0_9 t0_10 t1_0))) (fun z => (z.1.toInt - ((-1))).toNat) ?_ ((x2 : Int32), (lx19 : (Nat → Int32))) _ _ _ w23 ⟨(show q_F (x2.toInt ≤ x2.toInt) from (show x2.toInt ≤ x2.toInt from by omega)), V, q_lw hl (q_lw1 0 rfl (q_lw1 1 rfl (q_lw1 2 rfl q_lw0))), hI, hF, hO24, hO25, ⟨((x2.toInt - ((-1))).toNat + 1), Nat.lt_succ_self _, (show F_FR_setUnit_L34 (F_FR_setUnit_L2 x2 t0_0 t0_1 t0_2 t0_3 t0_4 t0_5 t0_6 t0_7 t0_8 t0_9 t0_10 t1_0 fm30) x2 t0_0 t0_1 t0_2 t0_3 t0_4 t0_5 t0_6 t0_7 t0_8 t0_9 t0_10 t1_0 lx18 lx19 ((x2.toInt - ((-1))).toNat + 1) x2 lx19 = (F_FR_setUnit x2 t0_0 t0_1 t0_2 t0_3 t0_4 t0_5 t0_6 t0_7 t0_8 t0_9 t0_10 t1_0) from Eq.trans (by rw [F_FR_setUnit_L2.eq_2, if_pos c31]) hR26)⟩⟩
    rintro ⟨lx34, lx35⟩ H locs ls w38 ⟨i36, V, hl, hI, hF, hO39, hO40, ⟨fu43, hf44, hR41⟩⟩ ih37
    obtain ⟨fm45, rfl⟩ : ∃ m, fu43 = m + 1 := ⟨fu43 - 1, by omega⟩
    replace i36 : q_F (lx34.toInt ≤ x2.toInt) := i36
    replace hl : lv_has ls 6 [(2, .int lx34), (0, .ref (q 145)), (1, .int x2)] := hl
    replace hO39 : w38[145]? = (some (q 145, .inr (15, [.int t0_0, .ref (q 146), .ref (q 147), .ref (q 148), .ref (q 149), .ref (q 150), .ref (q 151), .ref (q 152), .int t0_1, .int t0_2, .int t0_3, .long t0_4, .int t0_5, .int t0_6, .long t0_7, .int t0_8, .long t0_9, .int t0_10])) : Option (Nat × va_E)) := hO39
    replace hO40 : w38[146]? = (some (q 146, .inl (g 0, (156 : Int32).toNatClampNeg, .inl lx35)) : Option (Nat × va_E)) := hO40
    refine lv_iload_n hx hb d_17_6_34 rfl (lv_at hl 0 rfl) ?_
    refine lv_if_le (tgt := 103) hx hb d_17_6_35 (by decide) (fun c46 => ?_) (fun c46 => ?_)
    ·
      refine lv_iload_n hx hb d_17_6_103 rfl (lv_at hl 2 rfl) ?_
      refine lv_istore_n (lv' := [(2, .int x2), (0, .ref (q 145)), (1, .int x2)]) hx hb d_17_6_104 rfl hl (by decide) rfl (fun ls hl => ?_)
      refine q_loop (X := Int32 × (Nat → Int32)) (fun z H locs ls w53 => q_F (x2.toInt ≤ z.1.toInt) ∧ q_Wd D g (va_A ws sz) s w53 H locs ∧ lv_has ls 6 [(2, .int z.1), (0, .ref (q 145))] ∧ q_I (msh g q) q w53 ∧ q_un ws w53 [146] ∧ w53[145]? = (some (q 145, .inr (15, [.int t0_0, .ref (q 146), .ref (q 147), .ref (q 148), .ref (q 149), .ref (q 150), .ref (q 151), .ref (q 152), .int t0_1, .int t0_2, .int t0_3, .long t0_4, .int t0_5, .int t0_6, .long t0_7, .int t0_8, .long t0_9, .int t0_10])) : Option (Nat × va_E)) ∧ w53[146]? = (some (q 146, .inl (g 0, (156 : Int32).toNatClampNeg, .inl z.2)) : Option (Nat × va_E)) ∧ (∃ n, (0 - z.1.toInt).toNat < n ∧ F_FR_setUnit_L105 (F_FR_setUnit_L2 x2 t0_0 t0_1 t0_2 t0_3 t0_4 t0_5 t0_6 t0_7 t0_8 t0_9 t0_10 t1_0 fm30) (F_FR_setUnit_L34 (F_FR_setUnit_L2 x2 t0_0 t0_1 t0_2 t0_3 t0_4 t0_5 t0_6 t0_7 t0_8 t0_9 t0_10 t1_0 fm30) x2 t0_0 t0_1 t0_2 t0_3 t0_4 t0_5 t0_6 t0_7 t0_8 t0_9 t0_10 t1_0 lx18 lx19 fm45) x2 t0_0 t0_1 t0_2 t0_3 t0_4 t0_5 t0_6 t0_7 t0_8 t0_9 t0_10 t1_0 lx18 lx19 lx34 lx35 n z.1 z.2 = (F_FR_setUnit x2 t0_0 t0_1 t0_2 t0_3 t0_4 t0_5 t0_6 t0_7 t0_8 t0_9 t0_10 t1_0))) (fun z => (0 - z.1.toInt).toNat) ?_ ((x2 : Int32), (lx35 : (Nat → Int32))) _ _ _ w38 ⟨(show q_F (x2.toInt ≤ x2.toInt) from (show x2.toInt ≤ x2.toInt from by omega)), V, q_lw hl (q_lw1 0 rfl (q_lw1 1 rfl q_lw0)), hI, hF, hO39, hO40, ⟨((0 - x2.toInt).toNat + 1), Nat.lt_succ_self _, (show F_FR_setUnit_L105 (F_FR_setUnit_L2 x2 t0_0 t0_1 t0_2 t0_3 t0_4 t0_5 t0_6 t0_7 t0_8 t0_9 t0_10 t1_0 fm30) (F_FR_setUnit_L34 (F_FR_setUnit_L2 x2 t0_0 t0_1 t0_2 t0_3 t0_4 t0_5 t0_6 t0_7 t0_8 t0_9 t0_10 t1_0 fm30) x2 t0_0 t0_1 t0_2 t0_3 t0_4 t0_5 t0_6 t0_7 t0_8 t0_9 t0_10 t1_0 lx18 lx19 fm45) x2 t0_0 t0_1 t0_2 t0_3 t0_4 t0_5 t0_6 t0_7 t0_8 t0_9 t0_10 t1_0 lx18 lx19 lx34 lx35 ((0 - x2.toInt).toNat + 1) x2 lx35 = (F_FR_setUnit x2 t0_0 t0_1 t0_2 t0_3 t0_4 t0_5 t0_6 t0_7 t0_8 t0_9 t0_10 t1_0) from Eq.trans (by rw [F_FR_setUnit_L34.eq_2, if_pos c46]) hR41)⟩⟩
      rintro ⟨lx49, lx50⟩ H locs ls w53 ⟨i51, V, hl, hI, hF, hO54, hO55, ⟨fu58, hf59, hR56⟩⟩ ih52
      obtain ⟨fm60, rfl⟩ : ∃ m, fu58 = m + 1 := ⟨fu58 - 1, by omega⟩
      replace i51 : q_F (x2.toInt ≤ lx49.toInt) := i51
      replace hl : lv_has ls 6 [(2, .int lx49), (0, .ref (q 145))] := hl
      replace hO54 : w53[145]? = (some (q 145, .inr (15, [.int t0_0, .ref (q 146), .ref (q 147), .ref (q 148), .ref (q 149), .ref (q 150), .ref (q 151), .ref (q 152), .int t0_1, .int t0_2, .int t0_3, .long t0_4, .int t0_5, .int t0_6, .long t0_7, .int t0_8, .long t0_9, .int t0_10])) : Option (Nat × va_E)) := hO54
      replace hO55 : w53[146]? = (some (q 146, .inl (g 0, (156 : Int32).toNatClampNeg, .inl lx50)) : Option (Nat × va_E)) := hO55
      refine lv_iload_n hx hb d_17_6_105 rfl (lv_at hl 0 rfl) ?_
      refine lv_if_ge (tgt := 163) hx hb d_17_6_106 (by decide) (fun c61 => ?_) (fun c61 => ?_)
      ·
        exact q_retv C0 V (⟨hI, hF, lx50, hO55, (show lx50 = (F_FR_setUnit x2 t0_0 t0_1 t0_2 t0_3 t0_4 t0_5 t0_6 t0_7 t0_8 t0_9 t0_10 t1_0) from Eq.trans (by rw [F_FR_setUnit_L105.eq_2, if_pos c61]) hR56)⟩) d_17_6_163
      ·
        have b63 : q_F (lx49.toInt < 0) := (q_nleI c61)
        refine lv_iconst (v := 0) hx hb d_17_6_109 (by decide) ?_
        refine lv_istore_n (lv' := [(3, .int 0), (2, .int lx49), (0, .ref (q 145))]) hx hb d_17_6_110 rfl hl (by decide) rfl (fun ls hl => ?_)
        refine lv_sipush (v := 155) hx hb d_17_6_111 (by decide) ?_
        refine lv_istore (lv' := [(4, .int 155), (3, .int 0), (2, .int lx49), (0, .ref (q 145))]) hx hb d_17_6_114 hl (by decide) rfl (fun ls hl => ?_)
        refine q_loop (X := Int32 × Int32 × (Nat → Int32)) (fun z H locs ls w74 => q_F (0 ≤ z.1.toInt + 1) ∧ q_F (0 ≤ z.2.1.toInt) ∧ q_F (z.2.1.toInt ≤ 1) ∧ q_F (z.1.toInt + z.2.1.toInt ≤ 155) ∧ q_Wd D g (va_A ws sz) s w74 H locs ∧ lv_has ls 6 [(4, .int z.1), (3, .int z.2.1), (2, .int lx49), (0, .ref (q 145))] ∧ q_I (msh g q) q w74 ∧ q_un ws w74 [146] ∧ w74[145]? = (some (q 145, .inr (15, [.int t0_0, .ref (q 146), .ref (q 147), .ref (q 148), .ref (q 149), .ref (q 150), .ref (q 151), .ref (q 152), .int t0_1, .int t0_2, .int t0_3, .long t0_4, .int t0_5, .int t0_6, .long t0_7, .int t0_8, .long t0_9, .int t0_10])) : Option (Nat × va_E)) ∧ w74[146]? = (some (q 146, .inl (g 0, (156 : Int32).toNatClampNeg, .inl z.2.2)) : Option (Nat × va_E)) ∧ (∃ n, (z.1.toInt - ((-1))).toNat < n ∧ F_FR_setUnit_L116 (F_FR_setUnit_L2 x2 t0_0 t0_1 t0_2 t0_3 t0_4 t0_5 t0_6 t0_7 t0_8 t0_9 t0_10 t1_0 fm30) (F_FR_setUnit_L34 (F_FR_setUnit_L2 x2 t0_0 t0_1 t0_2 t0_3 t0_4 t0_5 t0_6 t0_7 t0_8 t0_9 t0_10 t1_0 fm30) x2 t0_0 t0_1 t0_2 t0_3 t0_4 t0_5 t0_6 t0_7 t0_8 t0_9 t0_10 t1_0 lx18 lx19 fm45) (F_FR_setUnit_L105 (F_FR_setUnit_L2 x2 t0_0 t0_1 t0_2 t0_3 t0_4 t0_5 t0_6 t0_7 t0_8 t0_9 t0_10 t1_0 fm30) (F_FR_setUnit_L34 (F_FR_setUnit_L2 x2 t0_0 t0_1 t0_2 t0_3 t0_4 t0_5 t0_6 t0_7 t0_8 t0_9 t0_10 t1_0 fm30) x2 t0_0 t0_1 t0_2 t0_3 t0_4 t0_5 t0_6 t0_7 t0_8 t0_9 t0_10 t1_0 lx18 lx19 fm45) x2 t0_0 t0_1 t0_2 t0_3 t0_4 t0_5 t0_6 t0_7 t0_8 t0_9 t0_10 t1_0 lx18 lx19 lx34 lx35 fm60) x2 t0_0 t0_1 t0_2 t0_3 t0_4 t0_5 t0_6 t0_7 t0_8 t0_9 t0_10 t1_0 lx18 lx19 lx34 lx35 lx49 lx50 n z.1 z.2.1 z.2.2 = (F_FR_setUnit x2 t0_0 t0_1 t0_2 t0_3 t0_4 t0_5 t0_6 t0_7 t0_8 t0_9 t0_10 t1_0))) (fun z => (z.1.toInt - ((-1))).toNat) ?_ ((155 : Int32), (0 : Int32), (lx50 : (Nat → Int32))) _ _ _ w53 ⟨(show q_F (0 ≤ 155 + 1) from (show 0 ≤ 155 + 1 from by omega)), (show q_F (0 ≤ 0) from (show 0 ≤ 0 from by omega)), (show q_F (0 ≤ 1) from (show 0 ≤ 1 from by omega)), (show q_F (155 + 0 ≤ 155) from (show 155 + 0 ≤ 155 from by omega)), V, q_lw hl (q_lw1 0 rfl (q_lw1 1 rfl (q_lw1 2 rfl (q_lw1 3 rfl q_lw0)))), hI, hF, hO54, hO55, ⟨(((155 : Int32).toInt - ((-1))).toNat + 1), Nat.lt_succ_self _, (show F_FR_setUnit_L116 (F_FR_setUnit_L2 x2 t0_0 t0_1 t0_2 t0_3 t0_4 t0_5 t0_6 t0_7 t0_8 t0_9 t0_10 t1_0 fm30) (F_FR_setUnit_L34 (F_FR_setUnit_L2 x2 t0_0 t0_1 t0_2 t0_3 t0_4 t0_5 t0_6 t0_7 t0_8 t0_9 t0_10 t1_0 fm30) x2 t0_0 t0_1 t0_2 t0_3 t0_4 t0_5 t0_6 t0_7 t0_8 t0_9 t0_10 t1_0 lx18 lx19 fm45) (F_FR_setUnit_L105 (F_FR_setUnit_L2 x2 t0_0 t0_1 t0_2 t0_3 t0_4 t0_5 t0_6 t0_7 t0_8 t0_9 t0_10 t1_0 fm30) (F_FR_setUnit_L34 (F_FR_setUnit_L2 x2 t0_0 t0_1 t0_2 t0_3 t0_4 t0_5 t0_6 t0_7 t0_8 t0_9 t0_10 t1_0 fm30) x2 t0_0 t0_1 t0_2 t0_3 t0_4 t0_5 t0_6 t0_7 t0_8 t0_9 t0_10 t1_0 lx18 lx19 fm45) x2 t0_0 t0_1 t0_2 t0_3 t0_4 t0_5 t0_6 t0_7 t0_8 t0_9 t0_10 t1_0 lx18 lx19 lx34 lx35 fm60) x2 t0_0 t0_1 t0_2 t0_3 t0_4 t0_5 t0_6 t0_7 t0_8 t0_9 t0_10 t1_0 lx18 lx19 lx34 lx35 lx49 lx50 (((155 : Int32).toInt - ((-1))).toNat + 1) 155 0 lx50 = (F_FR_setUnit x2 t0_0 t0_1 t0_2 t0_3 t0_4 t0_5 t0_6 t0_7 t0_8 t0_9 t0_10 t1_0) from Eq.trans (by rw [F_FR_setUnit_L105.eq_2, if_neg c61]) hR56)⟩⟩
        rintro ⟨lx66, lx67, lx68⟩ H locs ls w74 ⟨i69, i70, i71, i72, V, hl, hI, hF, hO75, hO76, ⟨fu79, hf80, hR77⟩⟩ ih73
        obtain ⟨fm81, rfl⟩ : ∃ m, fu79 = m + 1 := ⟨fu79 - 1, by omega⟩
        replace i69 : q_F (0 ≤ lx66.toInt + 1) := i69
        replace i70 : q_F (0 ≤ lx67.toInt) := i70
        clear i71
        replace i72 : q_F (lx66.toInt + lx67.toInt ≤ 155) := i72
        replace hl : lv_has ls 6 [(4, .int lx66), (3, .int lx67), (2, .int lx49), (0, .ref (q 145))] := hl
        replace hO75 : w74[145]? = (some (q 145, .inr (15, [.int t0_0, .ref (q 146), .ref (q 147), .ref (q 148), .ref (q 149), .ref (q 150), .ref (q 151), .ref (q 152), .int t0_1, .int t0_2, .int t0_3, .long t0_4, .int t0_5, .int t0_6, .long t0_7, .int t0_8, .long t0_9, .int t0_10])) : Option (Nat × va_E)) := hO75
        replace hO76 : w74[146]? = (some (q 146, .inl (g 0, (156 : Int32).toNatClampNeg, .inl lx68)) : Option (Nat × va_E)) := hO76
        refine lv_iload hx hb d_17_6_116 (lv_at hl 0 rfl) ?_
        refine lv_if_lt (tgt := 157) hx hb d_17_6_118 (by decide) (fun c82 => ?_) (fun c82 => ?_)
        ·
          obtain ⟨a84, e85⟩ := q_nm (lx49 + 1 : Int32)
          have b86 : q_F (a84.toInt = lx49.toInt + 1) := (by rw [← e85]; exact q_addI (y := 1) rfl (by decide) (by have _ := q_lo32 (x := lx49); have _ := q_hi32 (x := lx49); have t1 : lx49.toInt < 0 := b63; omega) (by have _ := q_lo32 (x := lx49); have _ := q_hi32 (x := lx49); have t1 : lx49.toInt < 0 := b63; omega))
          refine lv_iinc (v := a84) (lv' := [(2, .int a84), (4, .int lx66), (3, .int lx67), (0, .ref (q 145))]) hx hb d_17_6_157 hl (k := 2) rfl (e85) (by decide) rfl (fun ls hl => ?_)
          refine lv_goto (tgt := 105) hx hb d_17_6_160 (by decide) ?_
          exact ih52 ((a84 : Int32), (lx68 : (Nat → Int32))) _ _ _ _ (show (0 - a84.toInt).toNat < (0 - lx49.toInt).toNat from by have t1 : a84.toInt = lx49.toInt + 1 := b86; have t2 : lx49.toInt < 0 := b63; omega) ⟨(show q_F (x2.toInt ≤ a84.toInt) from (show x2.toInt ≤ a84.toInt from by have t1 : x2.toInt ≤ lx49.toInt := i51; have t2 : a84.toInt = lx49.toInt + 1 := b86; omega)), V, q_lw hl (q_lw1 0 rfl (q_lw1 3 rfl q_lw0)), hI, hF, hO75, hO76, ⟨fm60, Nat.lt_of_lt_of_le (show (0 - a84.toInt).toNat < (0 - lx49.toInt).toNat from by have t1 : a84.toInt = lx49.toInt + 1 := b86; have t2 : lx49.toInt < 0 := b63; omega) (Nat.le_of_lt_succ hf59), (show F_FR_setUnit_L105 (F_FR_setUnit_L2 x2 t0_0 t0_1 t0_2 t0_3 t0_4 t0_5 t0_6 t0_7 t0_8 t0_9 t0_10 t1_0 fm30) (F_FR_setUnit_L34 (F_FR_setUnit_L2 x2 t0_0 t0_1 t0_2 t0_3 t0_4 t0_5 t0_6 t0_7 t0_8 t0_9 t0_10 t1_0 fm30) x2 t0_0 t0_1 t0_2 t0_3 t0_4 t0_5 t0_6 t0_7 t0_8 t0_9 t0_10 t1_0 lx18 lx19 fm45) x2 t0_0 t0_1 t0_2 t0_3 t0_4 t0_5 t0_6 t0_7 t0_8 t0_9 t0_10 t1_0 lx18 lx19 lx34 lx35 fm60 a84 lx68 = (F_FR_setUnit x2 t0_0 t0_1 t0_2 t0_3 t0_4 t0_5 t0_6 t0_7 t0_8 t0_9 t0_10 t1_0) from Eq.trans (by rw [← e85, F_FR_setUnit_L116.eq_2, if_pos c82]) hR77)⟩⟩
        ·
          have b87 : q_F (0 ≤ lx66.toInt) := (q_nltI c82)
          refine lv_aload_n hx hb d_17_6_121 rfl (lv_at hl 3 rfl) ?_
          refine q_get (ci := 15) (j := 1) (v := .ref (q 146)) C0 V i_FR rfl rfl hO75 (by decide) w_2076 rfl d_17_6_122 ?_
          refine lv_iload hx hb d_17_6_125 (lv_at hl 0 rfl) ?_
          refine q_iald C0 V hO76 (q_ix (x := lx66.toInt) rfl (by first | with_reducible exact q_fe b87 | (have t1 : 0 ≤ lx66.toInt := b87; omega)) (by have t1 : 0 ≤ lx66.toInt := b87; have t2 : 0 ≤ lx67.toInt := i70; have t3 : lx66.toInt + lx67.toInt ≤ 155 := i72; have e9 : (((156 : Int32).toNatClampNeg : Nat) : Int) = 156 := (by decide); omega)) d_17_6_127 ?_
          obtain ⟨a88, e89⟩ := q_nm (lx68 lx66.toNatClampNeg : Int32)
          refine q_ti (v := a88) e89 ?_
          refine lv_iload_n hx hb d_17_6_128 rfl (lv_at hl 1 rfl) ?_
          refine q_ldc C0 rfl w_2608 d_17_6_129 ?_
          refine lv_imul hx hb d_17_6_131 ?_
          obtain ⟨a90, e91⟩ := q_nm (lx67 * 1000000000 : Int32)
          refine q_ti (v := a90) e91 ?_
          refine lv_iadd hx hb d_17_6_132 ?_
          obtain ⟨a93, e94⟩ := q_nm (a88 + a90 : Int32)
          refine q_ti (v := a93) e94 ?_
          refine lv_istore (lv' := [(5, .int a93), (4, .int lx66), (3, .int lx67), (2, .int lx49), (0, .ref (q 145))]) hx hb d_17_6_133 hl (by decide) rfl (fun ls hl => ?_)
          refine lv_iload hx hb d_17_6_135 (lv_at hl 0 rfl) ?_
          refine lv_iconst (v := 1) hx hb d_17_6_137 (by decide) ?_
          refine lv_iand hx hb d_17_6_138 ?_
          obtain ⟨a95, e96⟩ := q_nm (a93 &&& 1 : Int32)
          refine q_ti (v := a95) e96 ?_
          have b97 : q_F (0 ≤ a95.toInt ∧ a95.toInt ≤ 1) := (by rw [← e96]; show 0 ≤ (a93 &&& 1 : Int32).toInt ∧ (a93 &&& 1 : Int32).toInt ≤ 1; exact s_and (by decide))
          refine lv_istore_n (lv' := [(3, .int a95), (5, .int a93), (4, .int lx66), (2, .int lx49), (0, .ref (q 145))]) hx hb d_17_6_139 rfl hl (by decide) rfl (fun ls hl => ?_)
          refine lv_aload_n hx hb d_17_6_140 rfl (lv_at hl 4 rfl) ?_
          refine q_get (ci := 15) (j := 1) (v := .ref (q 146)) C0 V i_FR rfl rfl hO75 (by decide) w_2076 rfl d_17_6_141 ?_
          refine lv_iload hx hb d_17_6_144 (lv_at hl 2 rfl) ?_
          refine lv_iload hx hb d_17_6_146 (lv_at hl 1 rfl) ?_
          refine lv_iconst (v := 2) hx hb d_17_6_148 (by decide) ?_
          refine lv_idiv hx hb d_17_6_149 (by decide) ?_
          obtain ⟨a98, e99⟩ := q_nm (a93 / 2 : Int32)
          refine q_ti (v := a98) e99 ?_
          refine q_iast C0 V hO76 (q_ix (x := lx66.toInt) rfl (by first | with_reducible exact q_fe b87 | (have t1 : 0 ≤ lx66.toInt := b87; omega)) (by have t1 : 0 ≤ lx66.toInt := b87; have t2 : 0 ≤ lx67.toInt := i70; have t3 : lx66.toInt + lx67.toInt ≤ 155 := i72; have e9 : (((156 : Int32).toNatClampNeg : Nat) : Int) = 156 := (by decide); omega)) d_17_6_150 (fun H locs w101 hu102 hO76 V => ?_)
          replace hI := n_ai' hI (n_r146 g q).1 hu102 hO76 (q_updB (fun _ => s_bnd) s_bnd)
          replace hO75 := (hu102 _ (by decide)).trans hO75
          replace hF := q_us hF hu102 (by simp)
          obtain ⟨f103, e104⟩ := q_nm (upd lx68 lx66.toNatClampNeg a98 : (Nat → Int32))
          rw [e104] at hO76
          obtain ⟨a105, e106⟩ := q_nm (lx66 + (-1) : Int32)
          have b107 : q_F (a105.toInt = lx66.toInt + (-1)) := (by rw [← e106]; exact q_addI (y := (-1)) rfl (by decide) (by have t1 : 0 ≤ lx66.toInt + 1 := i69; have _ := q_lo32 (x := lx66); have _ := q_hi32 (x := lx66); omega) (by have t1 : 0 ≤ lx66.toInt + 1 := i69; have _ := q_lo32 (x := lx66); have _ := q_hi32 (x := lx66); omega))
          refine lv_iinc (v := a105) (lv' := [(4, .int a105), (3, .int a95), (5, .int a93), (2, .int lx49), (0, .ref (q 145))]) hx hb d_17_6_151 hl (k := 2) rfl (e106) (by decide) rfl (fun ls hl => ?_)
          refine lv_goto (tgt := 116) hx hb d_17_6_154 (by decide) ?_
          exact ih73 ((a105 : Int32), (a95 : Int32), (f103 : (Nat → Int32))) _ _ _ _ (show (a105.toInt - ((-1))).toNat < (lx66.toInt - ((-1))).toNat from by have t1 : a105.toInt = lx66.toInt + (-1) := b107; have t2 : 0 ≤ lx66.toInt + 1 := i69; have t3 : 0 ≤ lx66.toInt := b87; omega) ⟨(show q_F (0 ≤ a105.toInt + 1) from (show 0 ≤ a105.toInt + 1 from by have t1 : 0 ≤ lx66.toInt := b87; have t2 : a105.toInt = lx66.toInt + (-1) := b107; omega)), (show q_F (0 ≤ a95.toInt) from (show 0 ≤ a95.toInt from by have t1 : 0 ≤ a95.toInt ∧ a95.toInt ≤ 1 := b97; omega)), (show q_F (a95.toInt ≤ 1) from (show a95.toInt ≤ 1 from by have t1 : 0 ≤ a95.toInt ∧ a95.toInt ≤ 1 := b97; omega)), (show q_F (a105.toInt + a95.toInt ≤ 155) from (show a105.toInt + a95.toInt ≤ 155 from by have t1 : 0 ≤ lx67.toInt := i70; have t2 : lx66.toInt + lx67.toInt ≤ 155 := i72; have t3 : 0 ≤ a95.toInt ∧ a95.toInt ≤ 1 := b97; have t4 : a105.toInt = lx66.toInt + (-1) := b107; omega)), V, q_lw hl (q_lw1 0 rfl (q_lw1 1 rfl (q_lw1 3 rfl (q_lw1 4 rfl q_lw0)))), hI, hF, hO75, hO76, ⟨fm81, Nat.lt_of_lt_of_le (show (a105.toInt - ((-1))).toNat < (lx66.toInt - ((-1))).toNat from by have t1 : a105.toInt = lx66.toInt + (-1) := b107; have t2 : 0 ≤ lx66.toInt + 1 := i69; have t3 : 0 ≤ lx66.toInt := b87; omega) (Nat.le_of_lt_succ hf80), (show F_FR_setUnit_L116 (F_FR_setUnit_L2 x2 t0_0 t0_1 t0_2 t0_3 t0_4 t0_5 t0_6 t0_7 t0_8 t0_9 t0_10 t1_0 fm30) (F_FR_setUnit_L34 (F_FR_setUnit_L2 x2 t0_0 t0_1 t0_2 t0_3 t0_4 t0_5 t0_6 t0_7 t0_8 t0_9 t0_10 t1_0 fm30) x2 t0_0 t0_1 t0_2 t0_3 t0_4 t0_5 t0_6 t0_7 t0_8 t0_9 t0_10 t1_0 lx18 lx19 fm45) (F_FR_setUnit_L105 (F_FR_setUnit_L2 x2 t0_0 t0_1 t0_2 t0_3 t0_4 t0_5 t0_6 t0_7 t0_8 t0_9 t0_10 t1_0 fm30) (F_FR_setUnit_L34 (F_FR_setUnit_L2 x2 t0_0 t0_1 t0_2 t0_3 t0_4 t0_5 t0_6 t0_7 t0_8 t0_9 t0_10 t1_0 fm30) x2 t0_0 t0_1 t0_2 t0_3 t0_4 t0_5 t0_6 t0_7 t0_8 t0_9 t0_10 t1_0 lx18 lx19 fm45) x2 t0_0 t0_1 t0_2 t0_3 t0_4 t0_5 t0_6 t0_7 t0_8 t0_9 t0_10 t1_0 lx18 lx19 lx34 lx35 fm60) x2 t0_0 t0_1 t0_2 t0_3 t0_4 t0_5 t0_6 t0_7 t0_8 t0_9 t0_10 t1_0 lx18 lx19 lx34 lx35 lx49 lx50 fm81 a105 a95 f103 = (F_FR_setUnit x2 t0_0 t0_1 t0_2 t0_3 t0_4 t0_5 t0_6 t0_7 t0_8 t0_9 t0_10 t1_0) from Eq.trans (by rw [← e106, ← e104, ← e99, ← e96, ← e94, ← e91, ← e89, F_FR_setUnit_L116.eq_2, if_neg c82]) hR77)⟩⟩
    ·
      have b108 : q_F (0 < lx34.toInt) := (q_nleI c46)
      refine lv_iconst (v := 0) hx hb d_17_6_38 (by decide) ?_
      refine lv_istore_n (lv' := [(3, .int 0), (2, .int lx34), (0, .ref (q 145)), (1, .int x2)]) hx hb d_17_6_39 rfl hl (by decide) rfl (fun ls hl => ?_)
      refine lv_iconst (v := 0) hx hb d_17_6_40 (by decide) ?_
      refine lv_istore (lv' := [(4, .int 0), (3, .int 0), (2, .int lx34), (0, .ref (q 145)), (1, .int x2)]) hx hb d_17_6_41 hl (by decide) rfl (fun ls hl => ?_)
      refine q_loop (X := Int32 × Int32 × (Nat → Int32)) (fun z H locs ls w119 => q_F (z.1.toInt ≤ 156) ∧ q_F (0 ≤ z.2.1.toInt) ∧ q_F (z.2.1.toInt ≤ 1) ∧ q_F (z.2.1.toInt ≤ z.1.toInt) ∧ q_Wd D g (va_A ws sz) s w119 H locs ∧ lv_has ls 6 [(4, .int z.1), (3, .int z.2.1), (2, .int lx34), (0, .ref (q 145)), (1, .int x2)] ∧ q_I (msh g q) q w119 ∧ q_un ws w119 [146] ∧ w119[145]? = (some (q 145, .inr (15, [.int t0_0, .ref (q 146), .ref (q 147), .ref (q 148), .ref (q 149), .ref (q 150), .ref (q 151), .ref (q 152), .int t0_1, .int t0_2, .int t0_3, .long t0_4, .int t0_5, .int t0_6, .long t0_7, .int t0_8, .long t0_9, .int t0_10])) : Option (Nat × va_E)) ∧ w119[146]? = (some (q 146, .inl (g 0, (156 : Int32).toNatClampNeg, .inl z.2.2)) : Option (Nat × va_E)) ∧ (∃ n, (156 - z.1.toInt).toNat < n ∧ F_FR_setUnit_L43 (F_FR_setUnit_L2 x2 t0_0 t0_1 t0_2 t0_3 t0_4 t0_5 t0_6 t0_7 t0_8 t0_9 t0_10 t1_0 fm30) (F_FR_setUnit_L34 (F_FR_setUnit_L2 x2 t0_0 t0_1 t0_2 t0_3 t0_4 t0_5 t0_6 t0_7 t0_8 t0_9 t0_10 t1_0 fm30) x2 t0_0 t0_1 t0_2 t0_3 t0_4 t0_5 t0_6 t0_7 t0_8 t0_9 t0_10 t1_0 lx18 lx19 fm45) x2 t0_0 t0_1 t0_2 t0_3 t0_4 t0_5 t0_6 t0_7 t0_8 t0_9 t0_10 t1_0 lx18 lx19 lx34 lx35 n z.1 z.2.1 z.2.2 = (F_FR_setUnit x2 t0_0 t0_1 t0_2 t0_3 t0_4 t0_5 t0_6 t0_7 t0_8 t0_9 t0_10 t1_0))) (fun z => (156 - z.1.toInt).toNat) ?_ ((0 : Int32), (0 : Int32), (lx35 : (Nat → Int32))) _ _ _ w38 ⟨(show q_F (0 ≤ 156) from (show 0 ≤ 156 from by omega)), (show q_F (0 ≤ 0) from (show 0 ≤ 0 from by omega)), (show q_F (0 ≤ 1) from (show 0 ≤ 1 from by omega)), (show q_F (0 ≤ 0) from (show 0 ≤ 0 from by omega)), V, q_lw hl (q_lw1 0 rfl (q_lw1 1 rfl (q_lw1 2 rfl (q_lw1 3 rfl (q_lw1 4 rfl q_lw0))))), hI, hF, hO39, hO40, ⟨((156 - (0 : Int32).toInt).toNat + 1), Nat.lt_succ_self _, (show F_FR_setUnit_L43 (F_FR_setUnit_L2 x2 t0_0 t0_1 t0_2 t0_3 t0_4 t0_5 t0_6 t0_7 t0_8 t0_9 t0_10 t1_0 fm30) (F_FR_setUnit_L34 (F_FR_setUnit_L2 x2 t0_0 t0_1 t0_2 t0_3 t0_4 t0_5 t0_6 t0_7 t0_8 t0_9 t0_10 t1_0 fm30) x2 t0_0 t0_1 t0_2 t0_3 t0_4 t0_5 t0_6 t0_7 t0_8 t0_9 t0_10 t1_0 lx18 lx19 fm45) x2 t0_0 t0_1 t0_2 t0_3 t0_4 t0_5 t0_6 t0_7 t0_8 t0_9 t0_10 t1_0 lx18 lx19 lx34 lx35 ((156 - (0 : Int32).toInt).toNat + 1) 0 0 lx35 = (F_FR_setUnit x2 t0_0 t0_1 t0_2 t0_3 t0_4 t0_5 t0_6 t0_7 t0_8 t0_9 t0_10 t1_0) from Eq.trans (by rw [F_FR_setUnit_L34.eq_2, if_neg c46]) hR41)⟩⟩
      rintro ⟨lx111, lx112, lx113⟩ H locs ls w119 ⟨i114, i115, i116, i117, V, hl, hI, hF, hO120, hO121, ⟨fu124, hf125, hR122⟩⟩ ih118
      obtain ⟨fm126, rfl⟩ : ∃ m, fu124 = m + 1 := ⟨fu124 - 1, by omega⟩
      replace i114 : q_F (lx111.toInt ≤ 156) := i114
      replace i115 : q_F (0 ≤ lx112.toInt) := i115
      clear i116
      replace i117 : q_F (lx112.toInt ≤ lx111.toInt) := i117
      replace hl : lv_has ls 6 [(4, .int lx111), (3, .int lx112), (2, .int lx34), (0, .ref (q 145)), (1, .int x2)] := hl
      replace hO120 : w119[145]? = (some (q 145, .inr (15, [.int t0_0, .ref (q 146), .ref (q 147), .ref (q 148), .ref (q 149), .ref (q 150), .ref (q 151), .ref (q 152), .int t0_1, .int t0_2, .int t0_3, .long t0_4, .int t0_5, .int t0_6, .long t0_7, .int t0_8, .long t0_9, .int t0_10])) : Option (Nat × va_E)) := hO120
      replace hO121 : w119[146]? = (some (q 146, .inl (g 0, (156 : Int32).toNatClampNeg, .inl lx113)) : Option (Nat × va_E)) := hO121
      refine lv_iload hx hb d_17_6_43 (lv_at hl 0 rfl) ?_
      refine lv_sipush (v := 156) hx hb d_17_6_45 (by decide) ?_
      refine lv_icmp_ge (tgt := 97) hx hb d_17_6_48 (by decide) (fun c127 => ?_) (fun c127 => ?_)
      ·
        obtain ⟨a129, e130⟩ := q_nm (lx34 + (-1) : Int32)
        have b131 : q_F (a129.toInt = lx34.toInt + (-1)) := (by rw [← e130]; exact q_addI (y := (-1)) rfl (by decide) (by have t1 : 0 < lx34.toInt := b108; have _ := q_lo32 (x := lx34); have _ := q_hi32 (x := lx34); omega) (by have t1 : 0 < lx34.toInt := b108; have _ := q_lo32 (x := lx34); have _ := q_hi32 (x := lx34); omega))
        refine lv_iinc (v := a129) (lv' := [(2, .int a129), (4, .int lx111), (3, .int lx112), (0, .ref (q 145)), (1, .int x2)]) hx hb d_17_6_97 hl (k := 2) rfl (e130) (by decide) rfl (fun ls hl => ?_)
        refine lv_goto (tgt := 34) hx hb d_17_6_100 (by decide) ?_
        exact ih37 ((a129 : Int32), (lx113 : (Nat → Int32))) _ _ _ _ (show (a129.toInt - ((-1))).toNat < (lx34.toInt - ((-1))).toNat from by have t1 : a129.toInt = lx34.toInt + (-1) := b131; have t2 : 0 < lx34.toInt := b108; omega) ⟨(show q_F (a129.toInt ≤ x2.toInt) from (show a129.toInt ≤ x2.toInt from by have t1 : lx34.toInt ≤ x2.toInt := i36; have t2 : a129.toInt = lx34.toInt + (-1) := b131; omega)), V, q_lw hl (q_lw1 0 rfl (q_lw1 3 rfl (q_lw1 4 rfl q_lw0))), hI, hF, hO120, hO121, ⟨fm45, Nat.lt_of_lt_of_le (show (a129.toInt - ((-1))).toNat < (lx34.toInt - ((-1))).toNat from by have t1 : a129.toInt = lx34.toInt + (-1) := b131; have t2 : 0 < lx34.toInt := b108; omega) (Nat.le_of_lt_succ hf44), (show F_FR_setUnit_L34 (F_FR_setUnit_L2 x2 t0_0 t0_1 t0_2 t0_3 t0_4 t0_5 t0_6 t0_7 t0_8 t0_9 t0_10 t1_0 fm30) x2 t0_0 t0_1 t0_2 t0_3 t0_4 t0_5 t0_6 t0_7 t0_8 t0_9 t0_10 t1_0 lx18 lx19 fm45 a129 lx113 = (F_FR_setUnit x2 t0_0 t0_1 t0_2 t0_3 t0_4 t0_5 t0_6 t0_7 t0_8 t0_9 t0_10 t1_0) from Eq.trans (by rw [← e130, F_FR_setUnit_L43.eq_2, if_pos c127]) hR122)⟩⟩
      ·
        have b132 : q_F (lx111.toInt < 156) := (q_nleI c127)
        refine lv_iconst (v := 2) hx hb d_17_6_51 (by decide) ?_
        refine lv_aload_n hx hb d_17_6_52 rfl (lv_at hl 3 rfl) ?_
        refine q_get (ci := 15) (j := 1) (v := .ref (q 146)) C0 V i_FR rfl rfl hO120 (by decide) w_2076 rfl d_17_6_53 ?_
        refine lv_iload hx hb d_17_6_56 (lv_at hl 0 rfl) ?_
        refine q_iald C0 V hO121 (q_ix (x := lx111.toInt) rfl (by have t1 : 0 ≤ lx112.toInt := i115; have t2 : lx112.toInt ≤ lx111.toInt := i117; omega) (by have t1 : 0 ≤ lx112.toInt := i115; have t2 : lx112.toInt ≤ lx111.toInt := i117; have t3 : lx111.toInt < 156 := b132; have e9 : (((156 : Int32).toNatClampNeg : Nat) : Int) = 156 := (by decide); omega)) d_17_6_58 ?_
        obtain ⟨a133, e134⟩ := q_nm (lx113 lx111.toNatClampNeg : Int32)
        refine q_ti (v := a133) e134 ?_
        refine lv_imul hx hb d_17_6_59 ?_
        obtain ⟨a135, e136⟩ := q_nm (2 * a133 : Int32)
        refine q_ti (v := a135) e136 ?_
        refine lv_iload_n hx hb d_17_6_60 rfl (lv_at hl 1 rfl) ?_
        refine lv_iadd hx hb d_17_6_61 ?_
        obtain ⟨a137, e138⟩ := q_nm (a135 + lx112 : Int32)
        refine q_ti (v := a137) e138 ?_
        refine lv_istore (lv' := [(5, .int a137), (4, .int lx111), (3, .int lx112), (2, .int lx34), (0, .ref (q 145)), (1, .int x2)]) hx hb d_17_6_62 hl (by decide) rfl (fun ls hl => ?_)
        refine lv_iload hx hb d_17_6_64 (lv_at hl 0 rfl) ?_
        refine q_ldc C0 rfl w_2608 d_17_6_66 ?_
        refine lv_icmp_lt (tgt := 75) hx hb d_17_6_68 (by decide) (fun c139 => ?_) (fun c139 => ?_)
        ·
          refine lv_iconst (v := 0) hx hb d_17_6_75 (by decide) ?_
          refine lv_istore_n (lv' := [(3, .int 0), (5, .int a137), (4, .int lx111), (2, .int lx34), (0, .ref (q 145)), (1, .int x2)]) hx hb d_17_6_76 rfl hl (by decide) rfl (fun ls hl => ?_)
          refine lv_aload_n hx hb d_17_6_77 rfl (lv_at hl 4 rfl) ?_
          refine q_get (ci := 15) (j := 1) (v := .ref (q 146)) C0 V i_FR rfl rfl hO120 (by decide) w_2076 rfl d_17_6_78 ?_
          refine lv_iload hx hb d_17_6_81 (lv_at hl 2 rfl) ?_
          refine lv_iload hx hb d_17_6_83 (lv_at hl 1 rfl) ?_
          refine lv_iload_n hx hb d_17_6_85 rfl (lv_at hl 0 rfl) ?_
          refine q_ldc C0 rfl w_2608 d_17_6_86 ?_
          refine lv_imul hx hb d_17_6_88 ?_
          refine q_ti (v := 0) (by decide) ?_
          refine lv_isub hx hb d_17_6_89 ?_
          obtain ⟨a141, e142⟩ := q_nm (a137 - 0 : Int32)
          refine q_ti (v := a141) e142 ?_
          refine q_iast C0 V hO121 (q_ix (x := lx111.toInt) rfl (by have t1 : 0 ≤ lx112.toInt := i115; have t2 : lx112.toInt ≤ lx111.toInt := i117; omega) (by have t1 : 0 ≤ lx112.toInt := i115; have t2 : lx112.toInt ≤ lx111.toInt := i117; have t3 : lx111.toInt < 156 := b132; have e9 : (((156 : Int32).toNatClampNeg : Nat) : Int) = 156 := (by decide); omega)) d_17_6_90 (fun H locs w144 hu145 hO121 V => ?_)
          replace hI := n_ai' hI (n_r146 g q).1 hu145 hO121 (q_updB (fun _ => s_bnd) s_bnd)
          replace hO120 := (hu145 _ (by decide)).trans hO120
          replace hF := q_us hF hu145 (by simp)
          obtain ⟨f146, e147⟩ := q_nm (upd lx113 lx111.toNatClampNeg a141 : (Nat → Int32))
          rw [e147] at hO121
          obtain ⟨a148, e149⟩ := q_nm (lx111 + 1 : Int32)
          have b150 : q_F (a148.toInt = lx111.toInt + 1) := (by rw [← e149]; exact q_addI (y := 1) rfl (by decide) (by have _ := q_lo32 (x := lx111); have _ := q_hi32 (x := lx111); have t1 : lx111.toInt ≤ 156 := i114; omega) (by have _ := q_lo32 (x := lx111); have _ := q_hi32 (x := lx111); have t1 : lx111.toInt ≤ 156 := i114; omega))
          refine lv_iinc (v := a148) (lv' := [(4, .int a148), (3, .int 0), (5, .int a137), (2, .int lx34), (0, .ref (q 145)), (1, .int x2)]) hx hb d_17_6_91 hl (k := 2) rfl (e149) (by decide) rfl (fun ls hl => ?_)
          refine lv_goto (tgt := 43) hx hb d_17_6_94 (by decide) ?_
          exact ih118 ((a148 : Int32), (0 : Int32), (f146 : (Nat → Int32))) _ _ _ _ (show (156 - a148.toInt).toNat < (156 - lx111.toInt).toNat from by have t1 : a148.toInt = lx111.toInt + 1 := b150; have t2 : lx111.toInt ≤ 156 := i114; have t3 : lx111.toInt < 156 := b132; omega) ⟨(show q_F (a148.toInt ≤ 156) from (show a148.toInt ≤ 156 from by have t1 : lx111.toInt < 156 := b132; have t2 : a148.toInt = lx111.toInt + 1 := b150; omega)), (show q_F (0 ≤ 0) from (show 0 ≤ 0 from by omega)), (show q_F (0 ≤ 1) from (show 0 ≤ 1 from by omega)), (show q_F (0 ≤ a148.toInt) from (show 0 ≤ a148.toInt from by have t1 : 0 ≤ lx112.toInt := i115; have t2 : lx112.toInt ≤ lx111.toInt := i117; have t3 : a148.toInt = lx111.toInt + 1 := b150; omega)), V, q_lw hl (q_lw1 0 rfl (q_lw1 1 rfl (q_lw1 3 rfl (q_lw1 4 rfl (q_lw1 5 rfl q_lw0))))), hI, hF, hO120, hO121, ⟨fm126, Nat.lt_of_lt_of_le (show (156 - a148.toInt).toNat < (156 - lx111.toInt).toNat from by have t1 : a148.toInt = lx111.toInt + 1 := b150; have t2 : lx111.toInt ≤ 156 := i114; have t3 : lx111.toInt < 156 := b132; omega) (Nat.le_of_lt_succ hf125), (show F_FR_setUnit_L43 (F_FR_setUnit_L2 x2 t0_0 t0_1 t0_2 t0_3 t0_4 t0_5 t0_6 t0_7 t0_8 t0_9 t0_10 t1_0 fm30) (F_FR_setUnit_L34 (F_FR_setUnit_L2 x2 t0_0 t0_1 t0_2 t0_3 t0_4 t0_5 t0_6 t0_7 t0_8 t0_9 t0_10 t1_0 fm30) x2 t0_0 t0_1 t0_2 t0_3 t0_4 t0_5 t0_6 t0_7 t0_8 t0_9 t0_10 t1_0 lx18 lx19 fm45) x2 t0_0 t0_1 t0_2 t0_3 t0_4 t0_5 t0_6 t0_7 t0_8 t0_9 t0_10 t1_0 lx18 lx19 lx34 lx35 fm126 a148 0 f146 = (F_FR_setUnit x2 t0_0 t0_1 t0_2 t0_3 t0_4 t0_5 t0_6 t0_7 t0_8 t0_9 t0_10 t1_0) from Eq.trans (by have c139x := c139; rw [← e138, ← e136, ← e134] at c139x; rw [← e149, ← e147, ← e142, ← e138, ← e136, ← e134, F_FR_setUnit_L43.eq_2, if_neg c127, if_pos c139x]) hR122)⟩⟩
        ·
          refine lv_iconst (v := 1) hx hb d_17_6_71 (by decide) ?_
          refine lv_goto (tgt := 76) hx hb d_17_6_72 (by decide) ?_
          refine lv_istore_n (lv' := [(3, .int 1), (5, .int a137), (4, .int lx111), (2, .int lx34), (0, .ref (q 145)), (1, .int x2)]) hx hb d_17_6_76 rfl hl (by decide) rfl (fun ls hl => ?_)
          refine lv_aload_n hx hb d_17_6_77 rfl (lv_at hl 4 rfl) ?_
          refine q_get (ci := 15) (j := 1) (v := .ref (q 146)) C0 V i_FR rfl rfl hO120 (by decide) w_2076 rfl d_17_6_78 ?_
          refine lv_iload hx hb d_17_6_81 (lv_at hl 2 rfl) ?_
          refine lv_iload hx hb d_17_6_83 (lv_at hl 1 rfl) ?_
          refine lv_iload_n hx hb d_17_6_85 rfl (lv_at hl 0 rfl) ?_
          refine q_ldc C0 rfl w_2608 d_17_6_86 ?_
          refine lv_imul hx hb d_17_6_88 ?_
          refine q_ti (v := 1000000000) (by decide) ?_
          refine lv_isub hx hb d_17_6_89 ?_
          obtain ⟨a152, e153⟩ := q_nm (a137 - 1000000000 : Int32)
          refine q_ti (v := a152) e153 ?_
          refine q_iast C0 V hO121 (q_ix (x := lx111.toInt) rfl (by have t1 : 0 ≤ lx112.toInt := i115; have t2 : lx112.toInt ≤ lx111.toInt := i117; omega) (by have t1 : 0 ≤ lx112.toInt := i115; have t2 : lx112.toInt ≤ lx111.toInt := i117; have t3 : lx111.toInt < 156 := b132; have e9 : (((156 : Int32).toNatClampNeg : Nat) : Int) = 156 := (by decide); omega)) d_17_6_90 (fun H locs w155 hu156 hO121 V => ?_)
          replace hI := n_ai' hI (n_r146 g q).1 hu156 hO121 (q_updB (fun _ => s_bnd) s_bnd)
          replace hO120 := (hu156 _ (by decide)).trans hO120
          replace hF := q_us hF hu156 (by simp)
          obtain ⟨f157, e158⟩ := q_nm (upd lx113 lx111.toNatClampNeg a152 : (Nat → Int32))
          rw [e158] at hO121
          obtain ⟨a159, e160⟩ := q_nm (lx111 + 1 : Int32)
          have b161 : q_F (a159.toInt = lx111.toInt + 1) := (by rw [← e160]; exact q_addI (y := 1) rfl (by decide) (by have _ := q_lo32 (x := lx111); have _ := q_hi32 (x := lx111); have t1 : lx111.toInt ≤ 156 := i114; omega) (by have _ := q_lo32 (x := lx111); have _ := q_hi32 (x := lx111); have t1 : lx111.toInt ≤ 156 := i114; omega))
          refine lv_iinc (v := a159) (lv' := [(4, .int a159), (3, .int 1), (5, .int a137), (2, .int lx34), (0, .ref (q 145)), (1, .int x2)]) hx hb d_17_6_91 hl (k := 2) rfl (e160) (by decide) rfl (fun ls hl => ?_)
          refine lv_goto (tgt := 43) hx hb d_17_6_94 (by decide) ?_
          exact ih118 ((a159 : Int32), (1 : Int32), (f157 : (Nat → Int32))) _ _ _ _ (show (156 - a159.toInt).toNat < (156 - lx111.toInt).toNat from by have t1 : a159.toInt = lx111.toInt + 1 := b161; have t2 : lx111.toInt ≤ 156 := i114; have t3 : lx111.toInt < 156 := b132; omega) ⟨(show q_F (a159.toInt ≤ 156) from (show a159.toInt ≤ 156 from by have t1 : lx111.toInt < 156 := b132; have t2 : a159.toInt = lx111.toInt + 1 := b161; omega)), (show q_F (0 ≤ 1) from (show 0 ≤ 1 from by omega)), (show q_F (1 ≤ 1) from (show 1 ≤ 1 from by omega)), (show q_F (1 ≤ a159.toInt) from (show 1 ≤ a159.toInt from by have t1 : 0 ≤ lx112.toInt := i115; have t2 : lx112.toInt ≤ lx111.toInt := i117; have t3 : a159.toInt = lx111.toInt + 1 := b161; omega)), V, q_lw hl (q_lw1 0 rfl (q_lw1 1 rfl (q_lw1 3 rfl (q_lw1 4 rfl (q_lw1 5 rfl q_lw0))))), hI, hF, hO120, hO121, ⟨fm126, Nat.lt_of_lt_of_le (show (156 - a159.toInt).toNat < (156 - lx111.toInt).toNat from by have t1 : a159.toInt = lx111.toInt + 1 := b161; have t2 : lx111.toInt ≤ 156 := i114; have t3 : lx111.toInt < 156 := b132; omega) (Nat.le_of_lt_succ hf125), (show F_FR_setUnit_L43 (F_FR_setUnit_L2 x2 t0_0 t0_1 t0_2 t0_3 t0_4 t0_5 t0_6 t0_7 t0_8 t0_9 t0_10 t1_0 fm30) (F_FR_setUnit_L34 (F_FR_setUnit_L2 x2 t0_0 t0_1 t0_2 t0_3 t0_4 t0_5 t0_6 t0_7 t0_8 t0_9 t0_10 t1_0 fm30) x2 t0_0 t0_1 t0_2 t0_3 t0_4 t0_5 t0_6 t0_7 t0_8 t0_9 t0_10 t1_0 lx18 lx19 fm45) x2 t0_0 t0_1 t0_2 t0_3 t0_4 t0_5 t0_6 t0_7 t0_8 t0_9 t0_10 t1_0 lx18 lx19 lx34 lx35 fm126 a159 1 f157 = (F_FR_setUnit x2 t0_0 t0_1 t0_2 t0_3 t0_4 t0_5 t0_6 t0_7 t0_8 t0_9 t0_10 t1_0) from Eq.trans (by have c139x := c139; rw [← e138, ← e136, ← e134] at c139x; rw [← e160, ← e158, ← e153, ← e138, ← e136, ← e134, F_FR_setUnit_L43.eq_2, if_neg c127, if_neg c139x]) hR122)⟩⟩
  ·
    have b162 : q_F (lx18.toInt < 156) := (q_nleI c31)
    refine lv_aload_n hx hb d_17_6_9 rfl (lv_at hl 1 rfl) ?_
    refine q_get (ci := 15) (j := 1) (v := .ref (q 146)) C0 V i_FR rfl rfl hO24 (by decide) w_2076 rfl d_17_6_10 ?_
    refine lv_iload_n hx hb d_17_6_13 rfl (lv_at hl 0 rfl) ?_
    refine lv_iload_n hx hb d_17_6_14 rfl (lv_at hl 0 rfl) ?_
    refine lv_bipush (v := 120) hx hb d_17_6_15 (by decide) ?_
    refine lv_icmp_ne (tgt := 24) hx hb d_17_6_17 (by decide) (fun c163 => ?_) (fun c163 => ?_)
    ·
      refine lv_iconst (v := 0) hx hb d_17_6_24 (by decide) ?_
      refine q_iast C0 V hO25 (q_ix (x := lx18.toInt) rfl (by first | with_reducible exact q_fe i20 | (have t1 : 0 ≤ lx18.toInt := i20; omega)) (by have t1 : 0 ≤ lx18.toInt := i20; have t2 : lx18.toInt < 156 := b162; have e9 : (((156 : Int32).toNatClampNeg : Nat) : Int) = 156 := (by decide); omega)) d_17_6_25 (fun H locs w165 hu166 hO25 V => ?_)
      replace hI := n_ai' hI (n_r146 g q).1 hu166 hO25 (q_updB (fun _ => s_bnd) s_bnd)
      replace hO24 := (hu166 _ (by decide)).trans hO24
      replace hF := q_us hF hu166 (by simp)
      obtain ⟨f167, e168⟩ := q_nm (upd lx19 lx18.toNatClampNeg 0 : (Nat → Int32))
      rw [e168] at hO25
      obtain ⟨a169, e170⟩ := q_nm (lx18 + 1 : Int32)
      have b171 : q_F (a169.toInt = lx18.toInt + 1) := (by rw [← e170]; exact q_addI (y := 1) rfl (by decide) (by have t1 : 0 ≤ lx18.toInt := i20; have t2 : lx18.toInt ≤ 156 := i21; omega) (by have t1 : 0 ≤ lx18.toInt := i20; have t2 : lx18.toInt ≤ 156 := i21; omega))
      refine lv_iinc (v := a169) (lv' := [(2, .int a169), (0, .ref (q 145)), (1, .int x2)]) hx hb d_17_6_26 hl (k := 0) rfl (e170) (by decide) rfl (fun ls hl => ?_)
      refine lv_goto (tgt := 2) hx hb d_17_6_29 (by decide) ?_
      exact ih22 ((a169 : Int32), (f167 : (Nat → Int32))) _ _ _ _ (show (156 - a169.toInt).toNat < (156 - lx18.toInt).toNat from by have t1 : a169.toInt = lx18.toInt + 1 := b171; have t2 : lx18.toInt ≤ 156 := i21; have t3 : lx18.toInt < 156 := b162; omega) ⟨(show q_F (0 ≤ a169.toInt) from (show 0 ≤ a169.toInt from by have t1 : 0 ≤ lx18.toInt := i20; have t2 : a169.toInt = lx18.toInt + 1 := b171; omega)), (show q_F (a169.toInt ≤ 156) from (show a169.toInt ≤ 156 from by have t1 : lx18.toInt < 156 := b162; have t2 : a169.toInt = lx18.toInt + 1 := b171; omega)), V, q_lw hl (q_lw1 0 rfl (q_lw1 1 rfl (q_lw1 2 rfl q_lw0))), hI, hF, hO24, hO25, ⟨fm30, Nat.lt_of_lt_of_le (show (156 - a169.toInt).toNat < (156 - lx18.toInt).toNat from by have t1 : a169.toInt = lx18.toInt + 1 := b171; have t2 : lx18.toInt ≤ 156 := i21; have t3 : lx18.toInt < 156 := b162; omega) (Nat.le_of_lt_succ hf29), (show F_FR_setUnit_L2 x2 t0_0 t0_1 t0_2 t0_3 t0_4 t0_5 t0_6 t0_7 t0_8 t0_9 t0_10 t1_0 fm30 a169 f167 = (F_FR_setUnit x2 t0_0 t0_1 t0_2 t0_3 t0_4 t0_5 t0_6 t0_7 t0_8 t0_9 t0_10 t1_0) from Eq.trans (by rw [← e170, ← e168, F_FR_setUnit_L2.eq_2, if_neg c31, if_neg c163]) hR26)⟩⟩
    ·
      refine lv_iconst (v := 1) hx hb d_17_6_20 (by decide) ?_
      refine lv_goto (tgt := 25) hx hb d_17_6_21 (by decide) ?_
      refine q_iast C0 V hO25 (q_ix (x := lx18.toInt) rfl (by first | with_reducible exact q_fe i20 | (have t1 : 0 ≤ lx18.toInt := i20; omega)) (by have t1 : 0 ≤ lx18.toInt := i20; have t2 : lx18.toInt < 156 := b162; have e9 : (((156 : Int32).toNatClampNeg : Nat) : Int) = 156 := (by decide); omega)) d_17_6_25 (fun H locs w173 hu174 hO25 V => ?_)
      replace hI := n_ai' hI (n_r146 g q).1 hu174 hO25 (q_updB (fun _ => s_bnd) s_bnd)
      replace hO24 := (hu174 _ (by decide)).trans hO24
      replace hF := q_us hF hu174 (by simp)
      obtain ⟨f175, e176⟩ := q_nm (upd lx19 lx18.toNatClampNeg 1 : (Nat → Int32))
      rw [e176] at hO25
      obtain ⟨a177, e178⟩ := q_nm (lx18 + 1 : Int32)
      have b179 : q_F (a177.toInt = lx18.toInt + 1) := (by rw [← e178]; exact q_addI (y := 1) rfl (by decide) (by have t1 : 0 ≤ lx18.toInt := i20; have t2 : lx18.toInt ≤ 156 := i21; omega) (by have t1 : 0 ≤ lx18.toInt := i20; have t2 : lx18.toInt ≤ 156 := i21; omega))
      refine lv_iinc (v := a177) (lv' := [(2, .int a177), (0, .ref (q 145)), (1, .int x2)]) hx hb d_17_6_26 hl (k := 0) rfl (e178) (by decide) rfl (fun ls hl => ?_)
      refine lv_goto (tgt := 2) hx hb d_17_6_29 (by decide) ?_
      exact ih22 ((a177 : Int32), (f175 : (Nat → Int32))) _ _ _ _ (show (156 - a177.toInt).toNat < (156 - lx18.toInt).toNat from by have t1 : a177.toInt = lx18.toInt + 1 := b179; have t2 : lx18.toInt ≤ 156 := i21; have t3 : lx18.toInt < 156 := b162; omega) ⟨(show q_F (0 ≤ a177.toInt) from (show 0 ≤ a177.toInt from by have t1 : 0 ≤ lx18.toInt := i20; have t2 : a177.toInt = lx18.toInt + 1 := b179; omega)), (show q_F (a177.toInt ≤ 156) from (show a177.toInt ≤ 156 from by have t1 : lx18.toInt < 156 := b162; have t2 : a177.toInt = lx18.toInt + 1 := b179; omega)), V, q_lw hl (q_lw1 0 rfl (q_lw1 1 rfl (q_lw1 2 rfl q_lw0))), hI, hF, hO24, hO25, ⟨fm30, Nat.lt_of_lt_of_le (show (156 - a177.toInt).toNat < (156 - lx18.toInt).toNat from by have t1 : a177.toInt = lx18.toInt + 1 := b179; have t2 : lx18.toInt ≤ 156 := i21; have t3 : lx18.toInt < 156 := b162; omega) (Nat.le_of_lt_succ hf29), (show F_FR_setUnit_L2 x2 t0_0 t0_1 t0_2 t0_3 t0_4 t0_5 t0_6 t0_7 t0_8 t0_9 t0_10 t1_0 fm30 a177 f175 = (F_FR_setUnit x2 t0_0 t0_1 t0_2 t0_3 t0_4 t0_5 t0_6 t0_7 t0_8 t0_9 t0_10 t1_0) from Eq.trans (by rw [← e178, ← e176, F_FR_setUnit_L2.eq_2, if_neg c31, if_pos c163]) hR26)⟩⟩

