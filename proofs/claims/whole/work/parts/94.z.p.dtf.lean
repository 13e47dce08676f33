/-! DecimalRows: root -/
/-- the state between two figures of a root -/
def rI (c1 c2 c4 c5 c8 c9 : Int32) (r l : Nat → Int32) (b : Int32) : Prop := (1 ≤ c2.toInt ∧ c2.toInt ≤ 1001) ∧ (0 ≤ c8.toInt ∧ c8.toInt ≤ 2 * c2.toInt) ∧ gO r c2.toNatClampNeg ∧ gO l c8.toNatClampNeg ∧ r 0 ≠ 0 ∧ ((0 ≤ c1.toInt ∧ c1.toInt ≤ 4100) ∧ (0 ≤ c4.toInt ∧ c4.toInt ≤ 1) ∧ (0 ≤ c5.toInt ∧ c5.toInt ≤ 1) ∧ (0 ≤ c9.toInt ∧ c9.toInt ≤ 12200)) ∧ (b.toInt = 0 → ∀ i : Nat, (i : Int) < c8.toInt → l i = 0)
theorem rI.more {x c1 c2 c4 c5 c8 c9 : Int32} {r l : Nat → Int32} {b : Int32} (h : rI c1 c2 c4 c5 c8 c9 r l b) (hex : b.toInt = 0 ∨ x.toInt < c2.toInt) (hs : ∃ i : Nat, (i : Int) < c8.toInt ∧ l i ≠ 0) : x.toInt < c2.toInt ∧ r 0 ≠ 0 := by
  obtain ⟨i, h1, h2⟩ := hs
  rcases hex with e | e
  · exact absurd (h.2.2.2.2.2.2 e i h1) h2
  · exact ⟨e, h.2.2.2.2.1⟩
theorem rI.setb {c1 c2 c4 c5 c8 c9 : Int32} {r l : Nat → Int32} {b b1 : Int32} (h : rI c1 c2 c4 c5 c8 c9 r l b) (hz : b1.toInt = 0 → ∀ i : Nat, (i : Int) < c8.toInt → l i = 0) : rI c1 c2 c4 c5 c8 c9 r l b1 := ⟨h.1, h.2.1, h.2.2.1, h.2.2.2.1, h.2.2.2.2.1, h.2.2.2.2.2.1, hz⟩
theorem g_rf {s : Int} {Q : Prop} (hs : 0 ≤ s) (h0 : s = 0 → Q) (h1 : 0 < s → Q) : Q := by
  by_cases c : s = 0
  · exact h0 c
  · exact h1 (by omega)
theorem g_ff {f t : Nat → Int32} {b m k x : Int32} (hm : m.toInt = b.toInt + k.toInt) (h0 : 0 ≤ k.toInt) (hb : 0 ≤ b.toInt) (ih : 1 ≤ k.toInt → f b.toNatClampNeg = t (1000 * x : Int32).toNatClampNeg) : upd f m.toNatClampNeg (t ((1000 * x) + k : Int32).toNatClampNeg) b.toNatClampNeg = t (1000 * x : Int32).toNatClampNeg := by
  by_cases c : k.toInt = 0
  · have k0 : k = 0 := Int32.toInt_inj.mp (by rw [c]; rfl)
    have m0 : m = b := Int32.toInt_inj.mp (by omega)
    subst k0 m0
    rw [v_eq, Int32.add_zero]
  · have e1 := q_clI (i := m) rfl (by omega)
    have e2 := q_clI (i := b) rfl hb
    rw [v_ne (by omega), ih (by omega)]
theorem g_pE {a b : Int32} (ha : 1 ≤ a.toInt ∧ a.toInt ≤ 1000) (hb : 0 ≤ b.toInt ∧ b.toInt ≤ 1) : ((a + b) - (a + b) / 2 * 2 : Int32).toInt = (a.toInt + b.toInt) % 2 := by
  have e : (a + b : Int32).toInt = a.toInt + b.toInt := q_addI rfl rfl (by omega) (by omega)
  have h1 := s_rem (x := a + b) (b := 2) (by omega) (by decide)
  have e2 : (2 : Int32).toInt = 2 := rfl
  rw [e2, e] at h1
  omega
theorem g_par1 {a b c : Int32} (ha : 1 ≤ a.toInt ∧ a.toInt ≤ 1000) (hb : 0 ≤ b.toInt ∧ b.toInt ≤ 1) (g : ((a + b) - (a + b) / 2 * 2 : Int32) = 1) (hc : c.toInt = 1) : (c.toInt + a.toInt + b.toInt) % 2 = 0 := by
  have h := g_pE ha hb
  rw [g] at h
  have e : (1 : Int32).toInt = 1 := rfl
  omega
theorem g_par0 {a b c : Int32} (ha : 1 ≤ a.toInt ∧ a.toInt ≤ 1000) (hb : 0 ≤ b.toInt ∧ b.toInt ≤ 1) (g : ¬ ((a + b) - (a + b) / 2 * 2 : Int32) = 1) (hc : c.toInt = 0) : (c.toInt + a.toInt + b.toInt) % 2 = 0 := by
  have h := g_pE ha hb
  have g2 := q_neI g
  have e : (1 : Int32).toInt = 1 := rfl
  omega
def Q_DR_root (p : Int32 × Int32 × Int32 × Int64 × Int32 × Int32 × Int32 × Int32 × Int32 × Int32 × Int32 × (Nat → Int32) × (Nat → Int32) × (Nat → Int32) × (Nat → Int32) × (Nat → Int32) × (Nat → Int32) × (Nat → Int32) × (Nat → Int32)) : Prop := gR p.2.2.2.2.2.2.2.2.2.2.2.1 p.2.2.2.2.2.2.2.2.2.2.2.2.1 p.2.2.2.2.2.2.2.2.2.2.2.2.2.1 p.2.2.2.2.2.2.2.2.2.2.2.2.2.2.1
theorem v_ro5 {K_F_DR_root_L181 : Int32 → Int32 → (Nat → Int32) → (Int32 × Int32 × Int32 × Int64 × Int32 × Int32 × Int32 × Int32 × Int32 × Int32 × Int32 × (Nat → Int32) × (Nat → Int32) × (Nat → Int32) × (Nat → Int32) × (Nat → Int32) × (Nat → Int32) × (Nat → Int32) × (Nat → Int32))} {K_F_DR_root_L268 : Int32 → Int32 → Int32 → Int32 → Int64 → Int32 → Int32 → Int32 → Int32 → Int32 → Int32 → Int32 → (Nat → Int32) → (Nat → Int32) → (Nat → Int32) → (Int32 × Int32 × Int32 × Int64 × Int32 × Int32 × Int32 × Int32 × Int32 × Int32 × Int32 × (Nat → Int32) × (Nat → Int32) × (Nat → Int32) × (Nat → Int32) × (Nat → Int32) × (Nat → Int32) × (Nat → Int32) × (Nat → Int32))} {K_F_DR_root_L330 : Int32 → Int32 → Int32 → Int32 → Int64 → Int32 → Int32 → Int32 → Int32 → Int32 → Int32 → Int32 → (Nat → Int32) → (Nat → Int32) → (Nat → Int32) → (Int32 × Int32 × Int32 × Int64 × Int32 × Int32 × Int32 × Int32 × Int32 × Int32 × Int32 × (Nat → Int32) × (Nat → Int32) × (Nat → Int32) × (Nat → Int32) × (Nat → Int32) × (Nat → Int32) × (Nat → Int32) × (Nat → Int32))} {x2 : Int32} {x3 : Int32} {x4 : Int32} {x5 : Int32} {t0_0 : Int32} {t0_1 : Int32} {t0_2 : Int32} {t0_3 : Int64} {t0_4 : Int32} {t0_5 : Int32} {t0_6 : Int32} {t0_7 : Int32} {t0_8 : Int32} {t0_9 : Int32} {t0_10 : Int32} {t1_0 : (Nat → Int32)} {t2_0 : (Nat → Int32)} {t3_0 : (Nat → Int32)} {t4_0 : (Nat → Int32)} {t5_0 : (Nat → Int32)} {t6_0 : (Nat → Int32)} {t7_0 : (Nat → Int32)} {t8_0 : (Nat → Int32)} {lx48 : Int32} {a74 : Int32} {lx76 : Int64} {lx108 : Int32} {a126 : Int32} {lx128 : Int32} {lx150 : Int32} {lx151 : (Nat → Int32)} {lx171 : Int32} {lx172 : Int32} {lx173 : (Nat → Int32)} {lx198 : Int32} {lx199 : (Nat → Int32)} {lx240 : Int32} {lx241 : Int32} {lx242 : Int32} {lx243 : Int32} {lx244 : Int64} {lx245 : Int32} {lx246 : Int32} {lx247 : Int32} {lx248 : Int32} {lx249 : Int32} {lx250 : Int32} {lx251 : Int32} {lx252 : (Nat → Int32)} {lx253 : (Nat → Int32)} {lx254 : (Nat → Int32)} {lx294 : Int64} {lx315 : Int32} {lx316 : Int32} {lx317 : Int32} {lx318 : Int32} {lx319 : Int64} {lx320 : Int32} {lx321 : Int32} {lx322 : Int32} {lx323 : Int32} {lx324 : Int32} {lx325 : Int32} {lx326 : Int32} {lx327 : (Nat → Int32)} {lx328 : (Nat → Int32)} {lx329 : (Nat → Int32)} {K_S_DR_root_L181 : Int32 → Int32 → (Nat → Int32) → Prop} {K_S_DR_root_L268 : Int32 → Int32 → Int32 → Int32 → Int64 → Int32 → Int32 → Int32 → Int32 → Int32 → Int32 → Int32 → (Nat → Int32) → (Nat → Int32) → (Nat → Int32) → Prop} {K_S_DR_root_L330 : Int32 → Int32 → Int32 → Int32 → Int64 → Int32 → Int32 → Int32 → Int32 → Int32 → Int32 → Int32 → (Nat → Int32) → (Nat → Int32) → (Nat → Int32) → Prop} (hR : gR t1_0 t2_0 t3_0 t4_0)(hx2 : 0 ≤ x2.toInt ∧ x2.toInt ≤ 9) (hx3 : 0 ≤ x3.toInt ∧ x3.toInt ≤ 9) (hx4 : 1 ≤ x4.toInt ∧ x4.toInt ≤ 1000)(hI : rI lx317 lx318 lx320 lx321 lx324 lx325 lx327 lx329 lx315)(hex : lx315.toInt = 0 ∨ x4.toInt < lx318.toInt) : ∀ (n : Nat) (lx384 : Int32) (lx385 : Int32), (0 ≤ lx384.toInt ∧ lx384.toInt ≤ lx324.toInt) → (4100 - lx384.toInt < (n : Int)) → (lx385.toInt ≠ 0 → ∃ i : Nat, (i : Int) < lx324.toInt ∧ lx329 i ≠ 0) → (S_DR_root_L418 K_S_DR_root_L181 K_S_DR_root_L268 K_S_DR_root_L330 x2 x3 x4 x5 t0_0 t0_1 t0_2 t0_3 t0_4 t0_5 t0_6 t0_7 t0_8 t0_9 t0_10 t1_0 t2_0 t3_0 t4_0 t5_0 t6_0 t7_0 t8_0 lx48 a74 lx76 lx108 a126 lx128 lx150 lx151 lx171 lx172 lx173 lx198 lx199 lx240 lx241 lx242 lx243 lx244 lx245 lx246 lx247 lx248 lx249 lx250 lx251 lx252 lx253 lx254 lx294 lx315 lx316 lx317 lx318 lx319 lx320 lx321 lx322 lx323 lx324 lx325 lx326 lx327 lx328 lx329 n lx384 lx385) ∧ Q_DR_root (F_DR_root_L418 K_F_DR_root_L181 K_F_DR_root_L268 K_F_DR_root_L330 x2 x3 x4 x5 t0_0 t0_1 t0_2 t0_3 t0_4 t0_5 t0_6 t0_7 t0_8 t0_9 t0_10 t1_0 t2_0 t3_0 t4_0 t5_0 t6_0 t7_0 t8_0 lx48 a74 lx76 lx108 a126 lx128 lx150 lx151 lx171 lx172 lx173 lx198 lx199 lx240 lx241 lx242 lx243 lx244 lx245 lx246 lx247 lx248 lx249 lx250 lx251 lx252 lx253 lx254 lx294 lx315 lx316 lx317 lx318 lx319 lx320 lx321 lx322 lx323 lx324 lx325 lx326 lx327 lx328 lx329 n lx384 lx385) := by
  intro n
  induction n with
  | zero => intro lx384 lx385 h0 hm hmo; obtain ⟨iA, iB, -⟩ := hI; exact absurd (show False by omega) id
  | succ n ih =>
    intro lx384 lx385 h0 hm hmo
    have e0 : (0 : Int32).toInt = 0 := rfl
    have eL0 : (0 : Int64).toInt = 0 := rfl
    have eL1 : (10000 : Int64).toInt = 10000 := rfl
    have eL2 : (-10000 : Int64).toInt = -10000 := rfl
    have eL3 : (1000 : Int64).toInt = 1000 := rfl
    have eL4 : (-1 : Int64).toInt = -1 := rfl
    have eI3 : (1000 : Int32).toInt = 1000 := rfl
    obtain ⟨iA, iB, iC, iD, iE, iF, iG⟩ := id hI
    have e84 := q_clI (i := lx384) rfl h0.1
    rw [S_DR_root_L418.eq_2, F_DR_root_L418.eq_2]
    by_cases g1 : lx324 ≤ lx384
    ·
      rw [if_pos g1, if_pos g1]
      have g1i : lx324.toInt ≤ lx384.toInt := q_leI g1
      have h2 := T_DR_toPrecision (x2 := x4) (x3 := lx76) (x4 := x5) (x5 := x3) (t0_0 := lx316) (t0_1 := lx317) (t0_2 := lx318) (t0_3 := lx319) (t0_4 := lx385) (t0_5 := (0 : Int32)) (t0_6 := lx322) (t0_7 := lx323) (t0_8 := lx324) (t0_9 := lx325) (t0_10 := lx326) (t1_0 := t1_0) (t2_0 := t2_0) (t3_0 := t3_0) (t4_0 := t4_0) (t5_0 := lx327) hR hx3 hx4 ⟨by omega, by omega⟩ iC (fun hne => hI.more hex (hmo hne))
      with_reducible refine v_owe h2.1 ?_
      replace h2 := h2.2
      generalize F_DR_toPrecision x4 lx76 x5 x3 lx316 lx317 lx318 lx319 lx385 (0 : Int32) lx322 lx323 lx324 lx325 lx326 t1_0 t2_0 t3_0 t4_0 lx327 = p457 at *
      unfold Q_DR_toPrecision at h2
      unfold S_DR_root_c471 F_DR_root_c471
      refine ⟨trivial, ?_⟩
      (unfold Q_DR_root; dsimp only; with_reducible assumption)
    ·
      rw [if_neg g1, if_neg g1]
      have g1i : lx384.toInt < lx324.toInt := q_nleI g1
      by_cases g3 : lx385 = (0 : Int32)
      ·
        rw [if_pos g3, if_pos g3]
        have g3i : lx385.toInt = 0 := q_eqI g3
        refine v_cons (by omega) ?_
        by_cases g4 : (lx329 lx384.toNatClampNeg : Int32) = (0 : Int32)
        ·
          rw [if_pos g4, if_pos g4]
          obtain ⟨a5, e6⟩ := q_nm (lx384 + 1 : Int32)
          rw [e6]
          have a5i : a5.toInt = lx384.toInt + 1 := by rw [← e6]; exact q_addI (x := lx384.toInt) (y := 1) rfl (by decide) (by omega) (by omega)
          exact ih _ _ ⟨by omega, by omega⟩ (by omega) (fun h => absurd rfl h)
        ·
          rw [if_neg g4, if_neg g4]
          obtain ⟨a7, e8⟩ := q_nm (lx384 + 1 : Int32)
          rw [e8]
          have a7i : a7.toInt = lx384.toInt + 1 := by rw [← e8]; exact q_addI (x := lx384.toInt) (y := 1) rfl (by decide) (by omega) (by omega)
          exact ih _ _ ⟨by omega, by omega⟩ (by omega) (fun _ => ⟨lx384.toNatClampNeg, by omega, g4⟩)
      ·
        rw [if_neg g3, if_neg g3]
        have g3i : lx385.toInt ≠ 0 := q_neI g3
        obtain ⟨a9, e10⟩ := q_nm (lx384 + 1 : Int32)
        rw [e10]
        have a9i : a9.toInt = lx384.toInt + 1 := by rw [← e10]; exact q_addI (x := lx384.toInt) (y := 1) rfl (by decide) (by omega) (by omega)
        exact ih _ _ ⟨by omega, by omega⟩ (by omega) (fun _ => hmo (by omega))
theorem v_ro4 {K_F_DR_root_L181 : Int32 → Int32 → (Nat → Int32) → (Int32 × Int32 × Int32 × Int64 × Int32 × Int32 × Int32 × Int32 × Int32 × Int32 × Int32 × (Nat → Int32) × (Nat → Int32) × (Nat → Int32) × (Nat → Int32) × (Nat → Int32) × (Nat → Int32) × (Nat → Int32) × (Nat → Int32))} {K_F_DR_root_L268 : Int32 → Int32 → Int32 → Int32 → Int64 → Int32 → Int32 → Int32 → Int32 → Int32 → Int32 → Int32 → (Nat → Int32) → (Nat → Int32) → (Nat → Int32) → (Int32 × Int32 × Int32 × Int64 × Int32 × Int32 × Int32 × Int32 × Int32 × Int32 × Int32 × (Nat → Int32) × (Nat → Int32) × (Nat → Int32) × (Nat → Int32) × (Nat → Int32) × (Nat → Int32) × (Nat → Int32) × (Nat → Int32))} {K_F_DR_root_L330 : Int32 → Int32 → Int32 → Int32 → Int64 → Int32 → Int32 → Int32 → Int32 → Int32 → Int32 → Int32 → (Nat → Int32) → (Nat → Int32) → (Nat → Int32) → (Int32 × Int32 × Int32 × Int64 × Int32 × Int32 × Int32 × Int32 × Int32 × Int32 × Int32 × (Nat → Int32) × (Nat → Int32) × (Nat → Int32) × (Nat → Int32) × (Nat → Int32) × (Nat → Int32) × (Nat → Int32) × (Nat → Int32))} {x2 : Int32} {x3 : Int32} {x4 : Int32} {x5 : Int32} {t0_0 : Int32} {t0_1 : Int32} {t0_2 : Int32} {t0_3 : Int64} {t0_4 : Int32} {t0_5 : Int32} {t0_6 : Int32} {t0_7 : Int32} {t0_8 : Int32} {t0_9 : Int32} {t0_10 : Int32} {t1_0 : (Nat → Int32)} {t2_0 : (Nat → Int32)} {t3_0 : (Nat → Int32)} {t4_0 : (Nat → Int32)} {t5_0 : (Nat → Int32)} {t6_0 : (Nat → Int32)} {t7_0 : (Nat → Int32)} {t8_0 : (Nat → Int32)} {lx48 : Int32} {a74 : Int32} {lx76 : Int64} {lx108 : Int32} {a126 : Int32} {lx128 : Int32} {lx150 : Int32} {lx151 : (Nat → Int32)} {lx171 : Int32} {lx172 : Int32} {lx173 : (Nat → Int32)} {lx198 : Int32} {lx199 : (Nat → Int32)} {lx240 : Int32} {lx241 : Int32} {lx242 : Int32} {lx243 : Int32} {lx244 : Int64} {lx245 : Int32} {lx246 : Int32} {lx247 : Int32} {lx248 : Int32} {lx249 : Int32} {lx250 : Int32} {lx251 : Int32} {lx252 : (Nat → Int32)} {lx253 : (Nat → Int32)} {lx254 : (Nat → Int32)} {lx294 : Int64} {lx315 : Int32} {lx316 : Int32} {lx317 : Int32} {lx318 : Int32} {lx319 : Int64} {lx320 : Int32} {lx321 : Int32} {lx322 : Int32} {lx323 : Int32} {lx324 : Int32} {lx325 : Int32} {lx326 : Int32} {lx327 : (Nat → Int32)} {lx328 : (Nat → Int32)} {lx329 : (Nat → Int32)} {K_S_DR_root_L181 : Int32 → Int32 → (Nat → Int32) → Prop} {K_S_DR_root_L268 : Int32 → Int32 → Int32 → Int32 → Int64 → Int32 → Int32 → Int32 → Int32 → Int32 → Int32 → Int32 → (Nat → Int32) → (Nat → Int32) → (Nat → Int32) → Prop} {K_S_DR_root_L330 : Int32 → Int32 → Int32 → Int32 → Int64 → Int32 → Int32 → Int32 → Int32 → Int32 → Int32 → Int32 → (Nat → Int32) → (Nat → Int32) → (Nat → Int32) → Prop} (hR : gR t1_0 t2_0 t3_0 t4_0)(hx2 : 0 ≤ x2.toInt ∧ x2.toInt ≤ 9) (hx3 : 0 ≤ x3.toInt ∧ x3.toInt ≤ 9) (hx4 : 1 ≤ x4.toInt ∧ x4.toInt ≤ 1000)(hI : rI lx317 lx318 lx320 lx321 lx324 lx325 lx327 lx329 lx315)(hsz : lx318.toInt ≤ x4.toInt)(hK : ∀ (b c0 c1 c2 : Int32) (c3 : Int64) (c4 c5 c6 c7 c8 c9 c10 : Int32) (r u l : Nat → Int32), rI c1 c2 c4 c5 c8 c9 r l b → (b.toInt = 0 ∨ lx318.toInt < c2.toInt) → K_S_DR_root_L330 b c0 c1 c2 c3 c4 c5 c6 c7 c8 c9 c10 r u l ∧ Q_DR_root (K_F_DR_root_L330 b c0 c1 c2 c3 c4 c5 c6 c7 c8 c9 c10 r u l)) : ∀ (n : Nat) (lx513 : Int32) (lx514 : Int32), (0 ≤ lx513.toInt ∧ lx513.toInt ≤ lx324.toInt) → (4100 - lx513.toInt < (n : Int)) → (lx514.toInt = 0 → ∀ i : Nat, (i : Int) < lx513.toInt → lx329 i = 0) → (S_DR_root_L349 K_S_DR_root_L181 K_S_DR_root_L268 K_S_DR_root_L330 x2 x3 x4 x5 t0_0 t0_1 t0_2 t0_3 t0_4 t0_5 t0_6 t0_7 t0_8 t0_9 t0_10 t1_0 t2_0 t3_0 t4_0 t5_0 t6_0 t7_0 t8_0 lx48 a74 lx76 lx108 a126 lx128 lx150 lx151 lx171 lx172 lx173 lx198 lx199 lx240 lx241 lx242 lx243 lx244 lx245 lx246 lx247 lx248 lx249 lx250 lx251 lx252 lx253 lx254 lx294 lx315 lx316 lx317 lx318 lx319 lx320 lx321 lx322 lx323 lx324 lx325 lx326 lx327 lx328 lx329 n lx513 lx514) ∧ Q_DR_root (F_DR_root_L349 K_F_DR_root_L181 K_F_DR_root_L268 K_F_DR_root_L330 x2 x3 x4 x5 t0_0 t0_1 t0_2 t0_3 t0_4 t0_5 t0_6 t0_7 t0_8 t0_9 t0_10 t1_0 t2_0 t3_0 t4_0 t5_0 t6_0 t7_0 t8_0 lx48 a74 lx76 lx108 a126 lx128 lx150 lx151 lx171 lx172 lx173 lx198 lx199 lx240 lx241 lx242 lx243 lx244 lx245 lx246 lx247 lx248 lx249 lx250 lx251 lx252 lx253 lx254 lx294 lx315 lx316 lx317 lx318 lx319 lx320 lx321 lx322 lx323 lx324 lx325 lx326 lx327 lx328 lx329 n lx513 lx514) := by
  intro n
  induction n with
  | zero => intro lx513 lx514 h0 hm hz; obtain ⟨iA, iB, -⟩ := hI; exact absurd (show False by omega) id
  | succ n ih =>
    intro lx513 lx514 h0 hm hz
    have e0 : (0 : Int32).toInt = 0 := rfl
    have eL0 : (0 : Int64).toInt = 0 := rfl
    have eL1 : (10000 : Int64).toInt = 10000 := rfl
    have eL2 : (-10000 : Int64).toInt = -10000 := rfl
    have eL3 : (1000 : Int64).toInt = 1000 := rfl
    have eL4 : (-1 : Int64).toInt = -1 := rfl
    have eI3 : (1000 : Int32).toInt = 1000 := rfl
    obtain ⟨iA, iB, iC, iD, iE, iF, iG⟩ := id hI
    have e13 := q_clI (i := lx513) rfl h0.1
    rw [S_DR_root_L349.eq_2, F_DR_root_L349.eq_2]
    by_cases g1 : lx324 ≤ lx513
    ·
      rw [if_pos g1, if_pos g1]
      have g1i : lx324.toInt ≤ lx513.toInt := q_leI g1
      by_cases g2 : lx514 = (0 : Int32)
      ·
        rw [if_pos g2, if_pos g2]
        have g2i : lx514.toInt = 0 := q_eqI g2
        exact hK _ _ _ _ _ _ _ _ _ _ _ _ _ _ _ (hI.setb (fun _ i hi => hz g2i i (by omega))) (Or.inl g2i)
      ·
        rw [if_neg g2, if_neg g2]
        have g2i : lx514.toInt ≠ 0 := q_neI g2
        have h3 := T_DR_nextRoot (x2 := (0 : Int32)) (x3 := (0 : Int32)) (t0_0 := lx316) (t0_1 := lx317) (t0_2 := lx318) (t0_3 := lx319) (t0_4 := lx320) (t0_5 := lx321) (t0_6 := lx322) (t0_7 := lx323) (t0_8 := lx324) (t0_9 := lx325) (t0_10 := lx326) (t1_0 := lx327) (t2_0 := lx328) (t3_0 := lx329) ⟨by omega, by omega⟩ ⟨by omega, by omega⟩ iC iD (by decide) (by decide)
        with_reducible refine v_owe h3.1 ?_
        replace h3 := h3.2
        generalize F_DR_nextRoot (0 : Int32) (0 : Int32) lx316 lx317 lx318 lx319 lx320 lx321 lx322 lx323 lx324 lx325 lx326 lx327 lx328 lx329 = p579 at *
        unfold Q_DR_nextRoot at h3
        obtain ⟨nrK, nr2, nr8, nrr, nrl, nrf, nrz⟩ := h3
        have nk1 := congrArg Int32.toInt nrK.2.1
        have nk4 := congrArg Int32.toInt nrK.2.2.2.1
        have nk5 := congrArg Int32.toInt nrK.2.2.2.2.1
        have nk9 := congrArg Int32.toInt nrK.2.2.2.2.2.2.1
        unfold S_DR_root_c394 F_DR_root_c394
        refine v_cons (by omega) ?_
        refine v_cons (by omega) ?_
        refine v_cons (by omega) ?_
        refine v_cons (by omega) ?_
        refine v_cons (by omega) ?_
        refine v_cons (by omega) ?_
        refine v_cons (by omega) ?_
        refine v_cons (by omega) ?_
        exact hK _ _ _ _ _ _ _ _ _ _ _ _ _ _ _ ⟨⟨by omega, by omega⟩, ⟨by omega, by omega⟩, nrr, nrl, by rw [nrf (by omega)]; exact iE, ⟨⟨by omega, by omega⟩, ⟨by omega, by omega⟩, ⟨by omega, by omega⟩, ⟨by omega, by omega⟩⟩, fun h => by omega⟩ (Or.inr (by omega))
    ·
      rw [if_neg g1, if_neg g1]
      have g1i : lx513.toInt < lx324.toInt := q_nleI g1
      by_cases g4 : lx514 = (0 : Int32)
      ·
        rw [if_pos g4, if_pos g4]
        have g4i : lx514.toInt = 0 := q_eqI g4
        refine v_cons (by omega) ?_
        by_cases g5 : (lx329 lx513.toNatClampNeg : Int32) = (0 : Int32)
        ·
          rw [if_pos g5, if_pos g5]
          obtain ⟨a6, e7⟩ := q_nm (lx513 + 1 : Int32)
          rw [e7]
          have a6i : a6.toInt = lx513.toInt + 1 := by rw [← e7]; exact q_addI (x := lx513.toInt) (y := 1) rfl (by decide) (by omega) (by omega)
          exact ih _ _ ⟨by omega, by omega⟩ (by omega) (fun _ i hi => by by_cases c : i = lx513.toNatClampNeg; rw [c]; exact g5; exact hz (by omega) i (by omega))
        ·
          rw [if_neg g5, if_neg g5]
          obtain ⟨a8, e9⟩ := q_nm (lx513 + 1 : Int32)
          rw [e9]
          have a8i : a8.toInt = lx513.toInt + 1 := by rw [← e9]; exact q_addI (x := lx513.toInt) (y := 1) rfl (by decide) (by omega) (by omega)
          exact ih _ _ ⟨by omega, by omega⟩ (by omega) (fun h => absurd h (by decide))
      ·
        rw [if_neg g4, if_neg g4]
        have g4i : lx514.toInt ≠ 0 := q_neI g4
        obtain ⟨a10, e11⟩ := q_nm (lx513 + 1 : Int32)
        rw [e11]
        have a10i : a10.toInt = lx513.toInt + 1 := by rw [← e11]; exact q_addI (x := lx513.toInt) (y := 1) rfl (by decide) (by omega) (by omega)
        exact ih _ _ ⟨by omega, by omega⟩ (by omega) (fun h => absurd h (by decide))
theorem v_ro3 {K_F_DR_root_L181 : Int32 → Int32 → (Nat → Int32) → (Int32 × Int32 × Int32 × Int64 × Int32 × Int32 × Int32 × Int32 × Int32 × Int32 × Int32 × (Nat → Int32) × (Nat → Int32) × (Nat → Int32) × (Nat → Int32) × (Nat → Int32) × (Nat → Int32) × (Nat → Int32) × (Nat → Int32))} {K_F_DR_root_L268 : Int32 → Int32 → Int32 → Int32 → Int64 → Int32 → Int32 → Int32 → Int32 → Int32 → Int32 → Int32 → (Nat → Int32) → (Nat → Int32) → (Nat → Int32) → (Int32 × Int32 × Int32 × Int64 × Int32 × Int32 × Int32 × Int32 × Int32 × Int32 × Int32 × (Nat → Int32) × (Nat → Int32) × (Nat → Int32) × (Nat → Int32) × (Nat → Int32) × (Nat → Int32) × (Nat → Int32) × (Nat → Int32))} {x2 : Int32} {x3 : Int32} {x4 : Int32} {x5 : Int32} {t0_0 : Int32} {t0_1 : Int32} {t0_2 : Int32} {t0_3 : Int64} {t0_4 : Int32} {t0_5 : Int32} {t0_6 : Int32} {t0_7 : Int32} {t0_8 : Int32} {t0_9 : Int32} {t0_10 : Int32} {t1_0 : (Nat → Int32)} {t2_0 : (Nat → Int32)} {t3_0 : (Nat → Int32)} {t4_0 : (Nat → Int32)} {t5_0 : (Nat → Int32)} {t6_0 : (Nat → Int32)} {t7_0 : (Nat → Int32)} {t8_0 : (Nat → Int32)} {lx48 : Int32} {a74 : Int32} {lx76 : Int64} {lx108 : Int32} {a126 : Int32} {lx128 : Int32} {lx150 : Int32} {lx151 : (Nat → Int32)} {lx171 : Int32} {lx172 : Int32} {lx173 : (Nat → Int32)} {lx198 : Int32} {lx199 : (Nat → Int32)} {lx240 : Int32} {lx241 : Int32} {lx242 : Int32} {lx243 : Int32} {lx244 : Int64} {lx245 : Int32} {lx246 : Int32} {lx247 : Int32} {lx248 : Int32} {lx249 : Int32} {lx250 : Int32} {lx251 : Int32} {lx252 : (Nat → Int32)} {lx253 : (Nat → Int32)} {lx254 : (Nat → Int32)} {lx294 : Int64} {K_S_DR_root_L181 : Int32 → Int32 → (Nat → Int32) → Prop} {K_S_DR_root_L268 : Int32 → Int32 → Int32 → Int32 → Int64 → Int32 → Int32 → Int32 → Int32 → Int32 → Int32 → Int32 → (Nat → Int32) → (Nat → Int32) → (Nat → Int32) → Prop} (hR : gR t1_0 t2_0 t3_0 t4_0)(hx2 : 0 ≤ x2.toInt ∧ x2.toInt ≤ 9) (hx3 : 0 ≤ x3.toInt ∧ x3.toInt ≤ 9) (hx4 : 1 ≤ x4.toInt ∧ x4.toInt ≤ 1000) : ∀ (n : Nat) (lx315 : Int32) (lx316 : Int32) (lx317 : Int32) (lx318 : Int32) (lx319 : Int64) (lx320 : Int32) (lx321 : Int32) (lx322 : Int32) (lx323 : Int32) (lx324 : Int32) (lx325 : Int32) (lx326 : Int32) (lx327 : (Nat → Int32)) (lx328 : (Nat → Int32)) (lx329 : (Nat → Int32)), (rI lx317 lx318 lx320 lx321 lx324 lx325 lx327 lx329 lx315) → ((lx315.toInt ≠ 0 → 1003 - lx318.toInt < (n : Int)) ∧ 0 < (n : Int)) → (S_DR_root_L330 K_S_DR_root_L181 K_S_DR_root_L268 x2 x3 x4 x5 t0_0 t0_1 t0_2 t0_3 t0_4 t0_5 t0_6 t0_7 t0_8 t0_9 t0_10 t1_0 t2_0 t3_0 t4_0 t5_0 t6_0 t7_0 t8_0 lx48 a74 lx76 lx108 a126 lx128 lx150 lx151 lx171 lx172 lx173 lx198 lx199 lx240 lx241 lx242 lx243 lx244 lx245 lx246 lx247 lx248 lx249 lx250 lx251 lx252 lx253 lx254 lx294 n lx315 lx316 lx317 lx318 lx319 lx320 lx321 lx322 lx323 lx324 lx325 lx326 lx327 lx328 lx329) ∧ Q_DR_root (F_DR_root_L330 K_F_DR_root_L181 K_F_DR_root_L268 x2 x3 x4 x5 t0_0 t0_1 t0_2 t0_3 t0_4 t0_5 t0_6 t0_7 t0_8 t0_9 t0_10 t1_0 t2_0 t3_0 t4_0 t5_0 t6_0 t7_0 t8_0 lx48 a74 lx76 lx108 a126 lx128 lx150 lx151 lx171 lx172 lx173 lx198 lx199 lx240 lx241 lx242 lx243 lx244 lx245 lx246 lx247 lx248 lx249 lx250 lx251 lx252 lx253 lx254 lx294 n lx315 lx316 lx317 lx318 lx319 lx320 lx321 lx322 lx323 lx324 lx325 lx326 lx327 lx328 lx329) := by
  intro n
  induction n with
  | zero => intro lx315 lx316 lx317 lx318 lx319 lx320 lx321 lx322 lx323 lx324 lx325 lx326 lx327 lx328 lx329 hI hm; exact absurd (show False by omega) id
  | succ n ih =>
    intro lx315 lx316 lx317 lx318 lx319 lx320 lx321 lx322 lx323 lx324 lx325 lx326 lx327 lx328 lx329 hI hm
    have e0 : (0 : Int32).toInt = 0 := rfl
    have eL0 : (0 : Int64).toInt = 0 := rfl
    have eL1 : (10000 : Int64).toInt = 10000 := rfl
    have eL2 : (-10000 : Int64).toInt = -10000 := rfl
    have eL3 : (1000 : Int64).toInt = 1000 := rfl
    have eL4 : (-1 : Int64).toInt = -1 := rfl
    have eI3 : (1000 : Int32).toInt = 1000 := rfl
    obtain ⟨iA, iB, iC, iD, iE, iF, iG⟩ := id hI
    rw [S_DR_root_L330.eq_2, F_DR_root_L330.eq_2]
    by_cases g1 : lx315 = (0 : Int32)
    ·
      rw [if_pos g1, if_pos g1]
      have g1i : lx315.toInt = 0 := q_eqI g1
      unfold S_DR_root_J410 F_DR_root_J410
      exact v_ro5 hR hx2 hx3 hx4 hI (Or.inl g1i) _ _ _ ⟨by decide, by omega⟩ (by decide) (fun h => absurd rfl h)
    ·
      rw [if_neg g1, if_neg g1]
      have g1i : lx315.toInt ≠ 0 := q_neI g1
      by_cases g2 : x4 < lx318
      ·
        rw [if_pos g2, if_pos g2]
        have g2i : x4.toInt < lx318.toInt := q_ltI g2
        unfold S_DR_root_J410 F_DR_root_J410
        exact v_ro5 hR hx2 hx3 hx4 hI (Or.inr g2i) _ _ _ ⟨by decide, by omega⟩ (by decide) (fun h => absurd rfl h)
      ·
        rw [if_neg g2, if_neg g2]
        have g2i : lx318.toInt ≤ x4.toInt := q_nltI g2
        exact v_ro4 hR hx2 hx3 hx4 hI (by omega) (fun b c0 c1 c2 c3 c4 c5 c6 c7 c8 c9 c10 r u l q1 q2 => ih _ _ _ _ _ _ _ _ _ _ _ _ _ _ _ q1 ⟨fun hb => by rcases q2 with q | q; exact absurd q hb; omega, by omega⟩) _ _ _ ⟨by decide, by omega⟩ (by decide) (fun _ i hi => by omega)
theorem q_c1 {a : Int32} (h : a.toInt = 1) : a.toNatClampNeg = 1 := by have := q_clI (i := a) rfl (by omega); omega
theorem v_ro2 {K_F_DR_root_L181 : Int32 → Int32 → (Nat → Int32) → (Int32 × Int32 × Int32 × Int64 × Int32 × Int32 × Int32 × Int32 × Int32 × Int32 × Int32 × (Nat → Int32) × (Nat → Int32) × (Nat → Int32) × (Nat → Int32) × (Nat → Int32) × (Nat → Int32) × (Nat → Int32) × (Nat → Int32))} {x2 : Int32} {x3 : Int32} {x4 : Int32} {x5 : Int32} {t0_0 : Int32} {t0_1 : Int32} {t0_2 : Int32} {t0_3 : Int64} {t0_4 : Int32} {t0_5 : Int32} {t0_6 : Int32} {t0_7 : Int32} {t0_8 : Int32} {t0_9 : Int32} {t0_10 : Int32} {t1_0 : (Nat → Int32)} {t2_0 : (Nat → Int32)} {t3_0 : (Nat → Int32)} {t4_0 : (Nat → Int32)} {t5_0 : (Nat → Int32)} {t6_0 : (Nat → Int32)} {t7_0 : (Nat → Int32)} {t8_0 : (Nat → Int32)} {lx48 : Int32} {a74 : Int32} {lx76 : Int64} {lx108 : Int32} {a126 : Int32} {lx128 : Int32} {lx150 : Int32} {lx151 : (Nat → Int32)} {lx171 : Int32} {lx172 : Int32} {lx173 : (Nat → Int32)} {lx198 : Int32} {lx199 : (Nat → Int32)} {K_S_DR_root_L181 : Int32 → Int32 → (Nat → Int32) → Prop} (hR : gR t1_0 t2_0 t3_0 t4_0)(hx2 : 0 ≤ x2.toInt ∧ x2.toInt ≤ 9) (hx3 : 0 ≤ x3.toInt ∧ x3.toInt ≤ 9) (hx4 : 1 ≤ x4.toInt ∧ x4.toInt ≤ 1000)(h198 : (2 ≤ lx198.toInt ∧ lx198.toInt ≤ 1002) ∧ lx198.toInt % 2 = 0) (h199 : gO lx199 lx198.toNatClampNeg) (hnz : lx199 0 ≠ 0 ∨ lx199 1 ≠ 0) : ∀ (n : Nat) (lx240 : Int32) (lx241 : Int32) (lx242 : Int32) (lx243 : Int32) (lx244 : Int64) (lx245 : Int32) (lx246 : Int32) (lx247 : Int32) (lx248 : Int32) (lx249 : Int32) (lx250 : Int32) (lx251 : Int32) (lx252 : (Nat → Int32)) (lx253 : (Nat → Int32)) (lx254 : (Nat → Int32)), (0 ≤ lx240.toInt ∧ lx240.toInt ≤ lx198.toInt ∧ lx240.toInt % 2 = 0) → (12200 - lx240.toInt < (n : Int)) → (2 * lx243.toInt = lx240.toInt) → (0 ≤ lx249.toInt ∧ lx249.toInt ≤ lx240.toInt) → (lx247 = lx198) → (gO lx252 lx243.toNatClampNeg) → (gO lx254 lx249.toNatClampNeg) → (0 < lx243.toInt → lx252 0 ≠ 0) → ((0 ≤ lx242.toInt ∧ lx242.toInt ≤ 4100) ∧ (0 ≤ lx245.toInt ∧ lx245.toInt ≤ 1) ∧ (0 ≤ lx246.toInt ∧ lx246.toInt ≤ 1) ∧ (0 ≤ lx250.toInt ∧ lx250.toInt ≤ 12200)) → (S_DR_root_L268 K_S_DR_root_L181 x2 x3 x4 x5 t0_0 t0_1 t0_2 t0_3 t0_4 t0_5 t0_6 t0_7 t0_8 t0_9 t0_10 t1_0 t2_0 t3_0 t4_0 t5_0 t6_0 t7_0 t8_0 lx48 a74 lx76 lx108 a126 lx128 lx150 lx151 lx171 lx172 lx173 lx198 lx199 n lx240 lx241 lx242 lx243 lx244 lx245 lx246 lx247 lx248 lx249 lx250 lx251 lx252 lx253 lx254) ∧ Q_DR_root (F_DR_root_L268 K_F_DR_root_L181 x2 x3 x4 x5 t0_0 t0_1 t0_2 t0_3 t0_4 t0_5 t0_6 t0_7 t0_8 t0_9 t0_10 t1_0 t2_0 t3_0 t4_0 t5_0 t6_0 t7_0 t8_0 lx48 a74 lx76 lx108 a126 lx128 lx150 lx151 lx171 lx172 lx173 lx198 lx199 n lx240 lx241 lx242 lx243 lx244 lx245 lx246 lx247 lx248 lx249 lx250 lx251 lx252 lx253 lx254) := by
  intro n
  induction n with
  | zero => intro lx240 lx241 lx242 lx243 lx244 lx245 lx246 lx247 lx248 lx249 lx250 lx251 lx252 lx253 lx254 h0 hm h2 h9 h7 hor hol hf hb; exact absurd (show False by omega) id
  | succ n ih =>
    intro lx240 lx241 lx242 lx243 lx244 lx245 lx246 lx247 lx248 lx249 lx250 lx251 lx252 lx253 lx254 h0 hm h2 h9 h7 hor hol hf hb
    have e0 : (0 : Int32).toInt = 0 := rfl
    have eL0 : (0 : Int64).toInt = 0 := rfl
    have eL1 : (10000 : Int64).toInt = 10000 := rfl
    have eL2 : (-10000 : Int64).toInt = -10000 := rfl
    have eL3 : (1000 : Int64).toInt = 1000 := rfl
    have eL4 : (-1 : Int64).toInt = -1 := rfl
    have eI3 : (1000 : Int32).toInt = 1000 := rfl
    have h7i := congrArg Int32.toInt h7
    rw [S_DR_root_L268.eq_2, F_DR_root_L268.eq_2]
    by_cases g1 : lx247 ≤ lx240
    ·
      rw [if_pos g1, if_pos g1]
      have g1i : lx247.toInt ≤ lx240.toInt := q_leI g1
      by_cases g2 : lx108 = (0 : Int32)
      ·
        rw [if_pos g2, if_pos g2]
        have g2i : lx108.toInt = 0 := q_eqI g2
        unfold S_DR_root_J324 F_DR_root_J324
        exact v_ro3 hR hx2 hx3 hx4 1000000 _ _ _ _ _ _ _ _ _ _ _ _ _ _ _ ⟨⟨by omega, by omega⟩, ⟨by omega, by omega⟩, hor, hol, hf (by omega), hb, fun h => absurd h (by decide)⟩ ⟨fun _ => by omega, by decide⟩
      ·
        rw [if_neg g2, if_neg g2]
        have g2i : lx108.toInt ≠ 0 := q_neI g2
        unfold S_DR_root_J324 F_DR_root_J324
        exact v_ro3 hR hx2 hx3 hx4 1000000 _ _ _ _ _ _ _ _ _ _ _ _ _ _ _ ⟨⟨by omega, by omega⟩, ⟨by omega, by omega⟩, hor, hol, hf (by omega), hb, fun h => absurd h (by decide)⟩ ⟨fun _ => by omega, by decide⟩
    ·
      rw [if_neg g1, if_neg g1]
      have g1i : lx240.toInt < lx247.toInt := q_nleI g1
      refine v_cons (by omega) ?_
      obtain ⟨a3, e4⟩ := q_nm (lx240 + 1 : Int32)
      rw [e4]
      have a3i : a3.toInt = lx240.toInt + 1 := by rw [← e4]; exact q_addI (x := lx240.toInt) (y := 1) rfl (by decide) (by omega) (by omega)
      refine v_cons (by omega) ?_
      have h5 := T_DR_nextRoot (x2 := (lx199 lx240.toNatClampNeg : Int32)) (x3 := (lx199 a3.toNatClampNeg : Int32)) (t0_0 := lx241) (t0_1 := lx242) (t0_2 := lx243) (t0_3 := lx244) (t0_4 := lx245) (t0_5 := lx246) (t0_6 := lx247) (t0_7 := lx248) (t0_8 := lx249) (t0_9 := lx250) (t0_10 := lx251) (t1_0 := lx252) (t2_0 := lx253) (t3_0 := lx254) ⟨by omega, by omega⟩ ⟨by omega, by omega⟩ hor hol (g_at9 h199 (by omega) (by omega)) (g_at9 h199 (by omega) (by omega))
      with_reducible refine v_owe h5.1 ?_
      replace h5 := h5.2
      generalize F_DR_nextRoot (lx199 lx240.toNatClampNeg : Int32) (lx199 a3.toNatClampNeg : Int32) lx241 lx242 lx243 lx244 lx245 lx246 lx247 lx248 lx249 lx250 lx251 lx252 lx253 lx254 = p707 at *
      unfold Q_DR_nextRoot at h5
      obtain ⟨nrK, nr2, nr8, nrr, nrl, nrf, nrz⟩ := h5
      have nk1 := congrArg Int32.toInt nrK.2.1
      have nk4 := congrArg Int32.toInt nrK.2.2.2.1
      have nk5 := congrArg Int32.toInt nrK.2.2.2.2.1
      have nk9 := congrArg Int32.toInt nrK.2.2.2.2.2.2.1
      unfold S_DR_root_c294 F_DR_root_c294
      obtain ⟨a6, e7⟩ := q_nm (lx240 + 2 : Int32)
      rw [e7]
      have a6i : a6.toInt = lx240.toInt + 2 := by rw [← e7]; exact q_addI (x := lx240.toInt) (y := 2) rfl (by decide) (by omega) (by omega)
      have e40 := q_clI (i := lx240) rfl (by omega); exact ih _ _ _ _ _ _ _ _ _ _ _ _ _ _ _ ⟨by omega, by omega, by omega⟩ (by omega) (by omega) ⟨by omega, by omega⟩ (nrK.2.2.2.2.2.1.trans h7) nrr nrl (fun _ => g_rf (s := lx243.toInt) (by omega) (fun c => nrz c (by omega) (hnz.imp (fun h => by rw [show lx240.toNatClampNeg = 0 by omega]; exact h) (fun h => by rw [q_c1 (by omega)]; exact h))) (fun c => by rw [nrf c]; exact hf c)) ⟨⟨by omega, by omega⟩, ⟨by omega, by omega⟩, ⟨by omega, by omega⟩, ⟨by omega, by omega⟩⟩
theorem g_nz {f : Nat → Int32} {b v : Int32} (h0 : 0 ≤ b.toInt ∧ b.toInt ≤ 1) (h : f b.toNatClampNeg = v) (hv : v ≠ 0) : f 0 ≠ 0 ∨ f 1 ≠ 0 := by
  have e := q_clI (i := b) rfl h0.1
  by_cases c : b.toInt = 0
  · rw [show b.toNatClampNeg = 0 by omega] at h
    exact Or.inl (by rw [h]; exact hv)
  · rw [show b.toNatClampNeg = 1 by omega] at h
    exact Or.inr (by rw [h]; exact hv)
theorem v_ro1 {x2 : Int32} {x3 : Int32} {x4 : Int32} {x5 : Int32} {t0_0 : Int32} {t0_1 : Int32} {t0_2 : Int32} {t0_3 : Int64} {t0_4 : Int32} {t0_5 : Int32} {t0_6 : Int32} {t0_7 : Int32} {t0_8 : Int32} {t0_9 : Int32} {t0_10 : Int32} {t1_0 : (Nat → Int32)} {t2_0 : (Nat → Int32)} {t3_0 : (Nat → Int32)} {t4_0 : (Nat → Int32)} {t5_0 : (Nat → Int32)} {t6_0 : (Nat → Int32)} {t7_0 : (Nat → Int32)} {t8_0 : (Nat → Int32)} {lx48 : Int32} {a74 : Int32} {lx76 : Int64} {lx108 : Int32} {a126 : Int32} {lx128 : Int32} {lx150 : Int32} {lx151 : (Nat → Int32)} (hR : gR t1_0 t2_0 t3_0 t4_0)(hx2 : 0 ≤ x2.toInt ∧ x2.toInt ≤ 9) (hx3 : 0 ≤ x3.toInt ∧ x3.toInt ≤ 9) (hx4 : 1 ≤ x4.toInt ∧ x4.toInt ≤ 1000)(hT : (0 ≤ t0_1.toInt ∧ t0_1.toInt ≤ 4100) ∧ (0 ≤ t0_4.toInt ∧ t0_4.toInt ≤ 1) ∧ (0 ≤ t0_5.toInt ∧ t0_5.toInt ≤ 1) ∧ (0 ≤ t0_9.toInt ∧ t0_9.toInt ≤ 12200)) (nz2 : t1_0 (1000 * x2 : Int32).toNatClampNeg ≠ 0) (h108 : 0 ≤ lx108.toInt ∧ lx108.toInt ≤ 1) (h150 : 0 ≤ lx150.toInt ∧ lx150.toInt ≤ 1) (hpar : (lx150.toInt + (t2_0 x2.toNatClampNeg).toInt + lx108.toInt) % 2 = 0) : ∀ (n : Nat) (lx171 : Int32) (lx172 : Int32) (lx173 : (Nat → Int32)), (0 ≤ lx171.toInt ∧ lx171.toInt ≤ (t2_0 x2.toNatClampNeg).toInt) → (12200 - lx171.toInt < (n : Int)) → (lx172.toInt = lx150.toInt + lx171.toInt) → (gO lx173 lx172.toNatClampNeg) → (1 ≤ lx171.toInt → lx173 lx150.toNatClampNeg = t1_0 (1000 * x2 : Int32).toNatClampNeg) → (S_DR_root_L181 x2 x3 x4 x5 t0_0 t0_1 t0_2 t0_3 t0_4 t0_5 t0_6 t0_7 t0_8 t0_9 t0_10 t1_0 t2_0 t3_0 t4_0 t5_0 t6_0 t7_0 t8_0 lx48 a74 lx76 lx108 a126 lx128 lx150 lx151 n lx171 lx172 lx173) ∧ Q_DR_root (F_DR_root_L181 x2 x3 x4 x5 t0_0 t0_1 t0_2 t0_3 t0_4 t0_5 t0_6 t0_7 t0_8 t0_9 t0_10 t1_0 t2_0 t3_0 t4_0 t5_0 t6_0 t7_0 t8_0 lx48 a74 lx76 lx108 a126 lx128 lx150 lx151 n lx171 lx172 lx173) := by
  intro n
  induction n with
  | zero => intro lx171 lx172 lx173 h0 hm h1 ho hf; have hmn := (gR.at hR hx2).1; exact absurd (show False by omega) id
  | succ n ih =>
    intro lx171 lx172 lx173 h0 hm h1 ho hf
    have e0 : (0 : Int32).toInt = 0 := rfl
    have eL0 : (0 : Int64).toInt = 0 := rfl
    have eL1 : (10000 : Int64).toInt = 10000 := rfl
    have eL2 : (-10000 : Int64).toInt = -10000 := rfl
    have eL3 : (1000 : Int64).toInt = 1000 := rfl
    have eL4 : (-1 : Int64).toInt = -1 := rfl
    have eI3 : (1000 : Int32).toInt = 1000 := rfl
    have hmn := (gR.at hR hx2).1
    rw [S_DR_root_L181.eq_2, F_DR_root_L181.eq_2]
    by_cases g1 : (t2_0 x2.toNatClampNeg : Int32) ≤ lx171
    ·
      rw [if_pos g1, if_pos g1]
      have g1i := q_leI g1
      by_cases g2 : lx108 = (0 : Int32)
      ·
        rw [if_pos g2, if_pos g2]
        have g2i : lx108.toInt = 0 := q_eqI g2
        unfold S_DR_root_J255 F_DR_root_J255
        exact v_ro2 hR hx2 hx3 hx4 ⟨⟨by omega, by omega⟩, by omega⟩ ho (g_nz h150 (hf (by omega)) nz2) _ _ _ _ _ _ _ _ _ _ _ _ _ _ _ _ ⟨by decide, by omega, by decide⟩ (by decide) (by decide) (by decide) rfl (fun i hi => absurd hi (Nat.not_lt_zero _)) (fun i hi => absurd hi (Nat.not_lt_zero _)) (fun h => absurd h (by decide)) hT
      ·
        rw [if_neg g2, if_neg g2]
        have g2i : lx108.toInt ≠ 0 := q_neI g2
        refine v_cons (by omega) ?_
        unfold S_DR_root_J255 F_DR_root_J255
        obtain ⟨a3, e4⟩ := q_nm (lx172 + 1 : Int32)
        rw [e4]
        have a3i : a3.toInt = lx172.toInt + 1 := by rw [← e4]; exact q_addI (x := lx172.toInt) (y := 1) rfl (by decide) (by omega) (by omega)
        exact v_ro2 hR hx2 hx3 hx4 ⟨⟨by omega, by omega⟩, by omega⟩ (g_apd ho (by omega) (by omega) (by decide)) (g_nz h150 (by have e1 := q_clI (i := lx172) rfl (by omega); have e2 := q_clI (i := lx150) rfl (by omega); rw [v_ne (by omega)]; exact hf (by omega)) nz2) _ _ _ _ _ _ _ _ _ _ _ _ _ _ _ _ ⟨by decide, by omega, by decide⟩ (by decide) (by decide) (by decide) rfl (fun i hi => absurd hi (Nat.not_lt_zero _)) (fun i hi => absurd hi (Nat.not_lt_zero _)) (fun h => absurd h (by decide)) hT
    ·
      rw [if_neg g1, if_neg g1]
      have g1i := q_nleI g1
      refine v_cons (by have := (g_ix (x := x2) (k := lx171) hx2 ⟨by omega, by omega⟩).1; omega) ?_
      refine v_cons (by omega) ?_
      obtain ⟨a5, e6⟩ := q_nm (lx171 + 1 : Int32)
      rw [e6]
      have a5i : a5.toInt = lx171.toInt + 1 := by rw [← e6]; exact q_addI (x := lx171.toInt) (y := 1) rfl (by decide) (by omega) (by omega)
      obtain ⟨a7, e8⟩ := q_nm (lx172 + 1 : Int32)
      rw [e8]
      have a7i : a7.toInt = lx172.toInt + 1 := by rw [← e8]; exact q_addI (x := lx172.toInt) (y := 1) rfl (by decide) (by omega) (by omega)
      exact ih _ _ _ ⟨by omega, by omega⟩ (by omega) (by omega) (g_apd ho (by omega) (by omega) (g_kx hR.1 hx2 (by omega) (by omega))) (fun _ => g_ff h1 h0.1 h150.1 hf)
theorem T_DR_root {x2 : Int32} {x3 : Int32} {x4 : Int32} {x5 : Int32} {t0_0 : Int32} {t0_1 : Int32} {t0_2 : Int32} {t0_3 : Int64} {t0_4 : Int32} {t0_5 : Int32} {t0_6 : Int32} {t0_7 : Int32} {t0_8 : Int32} {t0_9 : Int32} {t0_10 : Int32} {t1_0 : (Nat → Int32)} {t2_0 : (Nat → Int32)} {t3_0 : (Nat → Int32)} {t4_0 : (Nat → Int32)} {t5_0 : (Nat → Int32)} {t6_0 : (Nat → Int32)} {t7_0 : (Nat → Int32)} {t8_0 : (Nat → Int32)} (hR : gR t1_0 t2_0 t3_0 t4_0)(hT : (0 ≤ t0_1.toInt ∧ t0_1.toInt ≤ 4100) ∧ (0 ≤ t0_4.toInt ∧ t0_4.toInt ≤ 1) ∧ (0 ≤ t0_5.toInt ∧ t0_5.toInt ≤ 1) ∧ (0 ≤ t0_9.toInt ∧ t0_9.toInt ≤ 12200)) : (S_DR_root x2 x3 x4 x5 t0_0 t0_1 t0_2 t0_3 t0_4 t0_5 t0_6 t0_7 t0_8 t0_9 t0_10 t1_0 t2_0 t3_0 t4_0 t5_0 t6_0 t7_0 t8_0) ∧ Q_DR_root (F_DR_root x2 x3 x4 x5 t0_0 t0_1 t0_2 t0_3 t0_4 t0_5 t0_6 t0_7 t0_8 t0_9 t0_10 t1_0 t2_0 t3_0 t4_0 t5_0 t6_0 t7_0 t8_0) := by
  have e0 : (0 : Int32).toInt = 0 := rfl
  have eL0 : (0 : Int64).toInt = 0 := rfl
  have eL1 : (10000 : Int64).toInt = 10000 := rfl
  have eL2 : (-10000 : Int64).toInt = -10000 := rfl
  have eL3 : (1000 : Int64).toInt = 1000 := rfl
  have eL4 : (-1 : Int64).toInt = -1 := rfl
  have eI3 : (1000 : Int32).toInt = 1000 := rfl
  unfold S_DR_root F_DR_root
  by_cases g1 : ((F_DR_no x2) : Int32) = (0 : Int32)
  ·
    rw [if_pos g1, if_pos g1]
    have g1r := g_no g1
    by_cases g2 : ((F_DR_no x3) : Int32) = (0 : Int32)
    ·
      rw [if_pos g2, if_pos g2]
      have g2r := g_no g2
      by_cases g3 : ((F_DR_noMode x5) : Int32) = (0 : Int32)
      ·
        rw [if_pos g3, if_pos g3]
        by_cases g4 : x4 < (1 : Int32)
        ·
          rw [if_pos g4, if_pos g4]
          have g4i : x4.toInt < 1 := q_ltI g4
          unfold S_DR_root_J35 F_DR_root_J35
          unfold S_DR_root_J53 F_DR_root_J53
          have g5 : ¬ ((1 : Int32) ≤ (0 : Int32)) := (by decide)
          rw [if_neg g5, if_neg g5]
          refine ⟨trivial, ?_⟩
          (unfold Q_DR_root; dsimp only; with_reducible assumption)
        ·
          rw [if_neg g4, if_neg g4]
          have g4i : 1 ≤ x4.toInt := q_nltI g4
          by_cases g6 : x4 ≤ (1000 : Int32)
          ·
            rw [if_pos g6, if_pos g6]
            have g6i : x4.toInt ≤ 1000 := q_leI g6
            refine v_cons (by omega) ?_
            refine v_cons (by omega) ?_
            by_cases g7 : (t3_0 x2.toNatClampNeg : Int32) = (0 : Int32)
            ·
              rw [if_pos g7, if_pos g7]
              unfold S_DR_root_J53 F_DR_root_J53
              have g8 : ((0 : Int32) ≤ (0 : Int32)) := (by decide)
              rw [if_pos g8, if_pos g8]
              refine v_cons (by omega) ?_
              refine v_cons (by omega) ?_
              by_cases g9 : (t4_0 x2.toNatClampNeg : Int32) < (0 : Int32)
              ·
                rw [if_pos g9, if_pos g9]
                unfold S_DR_root_J98 F_DR_root_J98
                have h10 := R_dz (x2 := x2) (t0_0 := (0 : Int32)) (t0_1 := t0_1) (t0_2 := t0_2) (t0_3 := t0_3) (t0_4 := t0_4) (t0_5 := t0_5) (t0_6 := t0_6) (t0_7 := t0_7) (t0_8 := t0_8) (t0_9 := t0_9) (t0_10 := (2 : Int32)) (t1_0 := t1_0) (by with_reducible assumption)
                have h10z := h10.2
                with_reducible refine v_owe h10.1 ?_
                by_cases g11 : ((F_DR_isZero x2 (0 : Int32) t0_1 t0_2 t0_3 t0_4 t0_5 t0_6 t0_7 t0_8 t0_9 (2 : Int32) t1_0) : Int32) = (0 : Int32)
                ·
                  rw [if_pos g11, if_pos g11]
                  have nz2 := u_if g11 (by with_reducible assumption)
                  have hmn := (gR.at hR (by with_reducible assumption : 0 ≤ x2.toInt ∧ x2.toInt ≤ 9)).1
                  by_cases g12 : ((t4_0 x2.toNatClampNeg : Int32) - (t4_0 x2.toNatClampNeg : Int32) / 2 * 2 : Int32) = (0 : Int32)
                  ·
                    rw [if_pos g12, if_pos g12]
                    unfold S_DR_root_J141 F_DR_root_J141
                    have g13 : ((0 : Int32) = (0 : Int32)) := (by decide)
                    rw [if_pos g13, if_pos g13]
                    unfold S_DR_root_J159 F_DR_root_J159
                    by_cases g14 : (((t2_0 x2.toNatClampNeg : Int32) + (0 : Int32) : Int32) - ((t2_0 x2.toNatClampNeg : Int32) + (0 : Int32) : Int32) / 2 * 2 : Int32) = (1 : Int32)
                    ·
                      rw [if_pos g14, if_pos g14]
                      have par := fun hc => g_par1 (c := 1) hmn (by decide) g14 hc
                      unfold S_DR_root_J178 F_DR_root_J178
                      exact v_ro1 hR (by with_reducible assumption) (by with_reducible assumption) ⟨by omega, by omega⟩ hT nz2 (by decide) (by decide) (par (by decide)) _ _ _ _ ⟨by decide, by omega⟩ (by decide) (by decide) (by first | exact g_one | exact fun i hi => absurd hi (Nat.not_lt_zero _)) (fun h => absurd h (by decide))
                    ·
                      rw [if_neg g14, if_neg g14]
                      have par := fun hc => g_par0 (c := 0) hmn (by decide) g14 hc
                      unfold S_DR_root_J178 F_DR_root_J178
                      exact v_ro1 hR (by with_reducible assumption) (by with_reducible assumption) ⟨by omega, by omega⟩ hT nz2 (by decide) (by decide) (par (by decide)) _ _ _ _ ⟨by decide, by omega⟩ (by decide) (by decide) (by first | exact g_one | exact fun i hi => absurd hi (Nat.not_lt_zero _)) (fun h => absurd h (by decide))
                  ·
                    rw [if_neg g12, if_neg g12]
                    unfold S_DR_root_J141 F_DR_root_J141
                    have g15 : ¬ ((1 : Int32) = (0 : Int32)) := (by decide)
                    rw [if_neg g15, if_neg g15]
                    unfold S_DR_root_J159 F_DR_root_J159
                    by_cases g16 : (((t2_0 x2.toNatClampNeg : Int32) + (1 : Int32) : Int32) - ((t2_0 x2.toNatClampNeg : Int32) + (1 : Int32) : Int32) / 2 * 2 : Int32) = (1 : Int32)
                    ·
                      rw [if_pos g16, if_pos g16]
                      have par := fun hc => g_par1 (c := 1) hmn (by decide) g16 hc
                      unfold S_DR_root_J178 F_DR_root_J178
                      exact v_ro1 hR (by with_reducible assumption) (by with_reducible assumption) ⟨by omega, by omega⟩ hT nz2 (by decide) (by decide) (par (by decide)) _ _ _ _ ⟨by decide, by omega⟩ (by decide) (by decide) (by first | exact g_one | exact fun i hi => absurd hi (Nat.not_lt_zero _)) (fun h => absurd h (by decide))
                    ·
                      rw [if_neg g16, if_neg g16]
                      have par := fun hc => g_par0 (c := 0) hmn (by decide) g16 hc
                      unfold S_DR_root_J178 F_DR_root_J178
                      exact v_ro1 hR (by with_reducible assumption) (by with_reducible assumption) ⟨by omega, by omega⟩ hT nz2 (by decide) (by decide) (par (by decide)) _ _ _ _ ⟨by decide, by omega⟩ (by decide) (by decide) (by first | exact g_one | exact fun i hi => absurd hi (Nat.not_lt_zero _)) (fun h => absurd h (by decide))
                ·
                  rw [if_neg g11, if_neg g11]
                  have h17 := T_DR_load (x2 := x2) (t0_0 := (0 : Int32)) (t0_1 := t0_1) (t0_2 := t0_2) (t0_3 := t0_3) (t0_4 := t0_4) (t0_5 := t0_5) (t0_6 := t0_6) (t0_7 := t0_7) (t0_8 := t0_8) (t0_9 := t0_9) (t0_10 := (2 : Int32)) (t1_0 := t1_0) (t2_0 := t2_0) (t3_0 := t3_0) (t4_0 := t4_0) (t5_0 := t5_0) (by with_reducible assumption) (by with_reducible assumption)
                  with_reducible refine v_owe h17.1 ?_
                  replace h17 := h17.2
                  generalize F_DR_load x2 (0 : Int32) t0_1 t0_2 t0_3 t0_4 t0_5 t0_6 t0_7 t0_8 t0_9 (2 : Int32) t1_0 t2_0 t3_0 t4_0 t5_0 = p825 at *
                  unfold Q_DR_load at h17
                  obtain ⟨h171, h17g, h173, h174, h175, h176, h177⟩ := h17
                  have h174i := congrArg Int32.toInt h174
                  unfold S_DR_root_c110 F_DR_root_c110
                  have h18 := T_DR_toPrecision (x2 := x4) (x3 := ((-((1 - (t4_0 x2.toNatClampNeg : Int32) : Int32) / 2 : Int32) : Int32).toInt64 : Int64)) (x4 := x5) (x5 := x3) (t0_0 := (p825.1 : Int32)) (t0_1 := (p825.2.1 : Int32)) (t0_2 := (p825.2.2.1 : Int32)) (t0_3 := (p825.2.2.2.1 : Int64)) (t0_4 := (p825.2.2.2.2.1 : Int32)) (t0_5 := (p825.2.2.2.2.2.1 : Int32)) (t0_6 := (p825.2.2.2.2.2.2.1 : Int32)) (t0_7 := (p825.2.2.2.2.2.2.2.1 : Int32)) (t0_8 := (p825.2.2.2.2.2.2.2.2.1 : Int32)) (t0_9 := (p825.2.2.2.2.2.2.2.2.2.1 : Int32)) (t0_10 := (p825.2.2.2.2.2.2.2.2.2.2.1 : Int32)) (t1_0 := t1_0) (t2_0 := t2_0) (t3_0 := t3_0) (t4_0 := t4_0) (t5_0 := (p825.2.2.2.2.2.2.2.2.2.2.2 : (Nat → Int32))) (by with_reducible assumption) (by with_reducible assumption) ⟨by omega, by omega⟩ ⟨by omega, by omega⟩ (by with_reducible assumption) (fun hne => by omega)
                  with_reducible refine v_owe h18.1 ?_
                  replace h18 := h18.2
                  generalize F_DR_toPrecision x4 ((-((1 - (t4_0 x2.toNatClampNeg : Int32) : Int32) / 2 : Int32) : Int32).toInt64 : Int64) x5 x3 (p825.1 : Int32) (p825.2.1 : Int32) (p825.2.2.1 : Int32) (p825.2.2.2.1 : Int64) (p825.2.2.2.2.1 : Int32) (p825.2.2.2.2.2.1 : Int32) (p825.2.2.2.2.2.2.1 : Int32) (p825.2.2.2.2.2.2.2.1 : Int32) (p825.2.2.2.2.2.2.2.2.1 : Int32) (p825.2.2.2.2.2.2.2.2.2.1 : Int32) (p825.2.2.2.2.2.2.2.2.2.2.1 : Int32) t1_0 t2_0 t3_0 t4_0 (p825.2.2.2.2.2.2.2.2.2.2.2 : (Nat → Int32)) = p891 at *
                  unfold Q_DR_toPrecision at h18
                  unfold S_DR_root_c120 F_DR_root_c120
                  refine ⟨trivial, ?_⟩
                  (unfold Q_DR_root; dsimp only; with_reducible assumption)
              ·
                rw [if_neg g9, if_neg g9]
                unfold S_DR_root_J98 F_DR_root_J98
                have h19 := R_dz (x2 := x2) (t0_0 := (0 : Int32)) (t0_1 := t0_1) (t0_2 := t0_2) (t0_3 := t0_3) (t0_4 := t0_4) (t0_5 := t0_5) (t0_6 := t0_6) (t0_7 := t0_7) (t0_8 := t0_8) (t0_9 := t0_9) (t0_10 := (2 : Int32)) (t1_0 := t1_0) (by with_reducible assumption)
                have h19z := h19.2
                with_reducible refine v_owe h19.1 ?_
                by_cases g20 : ((F_DR_isZero x2 (0 : Int32) t0_1 t0_2 t0_3 t0_4 t0_5 t0_6 t0_7 t0_8 t0_9 (2 : Int32) t1_0) : Int32) = (0 : Int32)
                ·
                  rw [if_pos g20, if_pos g20]
                  have nz2 := u_if g20 (by with_reducible assumption)
                  have hmn := (gR.at hR (by with_reducible assumption : 0 ≤ x2.toInt ∧ x2.toInt ≤ 9)).1
                  by_cases g21 : ((t4_0 x2.toNatClampNeg : Int32) - (t4_0 x2.toNatClampNeg : Int32) / 2 * 2 : Int32) = (0 : Int32)
                  ·
                    rw [if_pos g21, if_pos g21]
                    unfold S_DR_root_J141 F_DR_root_J141
                    have g22 : ((0 : Int32) = (0 : Int32)) := (by decide)
                    rw [if_pos g22, if_pos g22]
                    unfold S_DR_root_J159 F_DR_root_J159
                    by_cases g23 : (((t2_0 x2.toNatClampNeg : Int32) + (0 : Int32) : Int32) - ((t2_0 x2.toNatClampNeg : Int32) + (0 : Int32) : Int32) / 2 * 2 : Int32) = (1 : Int32)
                    ·
                      rw [if_pos g23, if_pos g23]
                      have par := fun hc => g_par1 (c := 1) hmn (by decide) g23 hc
                      unfold S_DR_root_J178 F_DR_root_J178
                      exact v_ro1 hR (by with_reducible assumption) (by with_reducible assumption) ⟨by omega, by omega⟩ hT nz2 (by decide) (by decide) (par (by decide)) _ _ _ _ ⟨by decide, by omega⟩ (by decide) (by decide) (by first | exact g_one | exact fun i hi => absurd hi (Nat.not_lt_zero _)) (fun h => absurd h (by decide))
                    ·
                      rw [if_neg g23, if_neg g23]
                      have par := fun hc => g_par0 (c := 0) hmn (by decide) g23 hc
                      unfold S_DR_root_J178 F_DR_root_J178
                      exact v_ro1 hR (by with_reducible assumption) (by with_reducible assumption) ⟨by omega, by omega⟩ hT nz2 (by decide) (by decide) (par (by decide)) _ _ _ _ ⟨by decide, by omega⟩ (by decide) (by decide) (by first | exact g_one | exact fun i hi => absurd hi (Nat.not_lt_zero _)) (fun h => absurd h (by decide))
                  ·
                    rw [if_neg g21, if_neg g21]
                    unfold S_DR_root_J141 F_DR_root_J141
                    have g24 : ¬ ((1 : Int32) = (0 : Int32)) := (by decide)
                    rw [if_neg g24, if_neg g24]
                    unfold S_DR_root_J159 F_DR_root_J159
                    by_cases g25 : (((t2_0 x2.toNatClampNeg : Int32) + (1 : Int32) : Int32) - ((t2_0 x2.toNatClampNeg : Int32) + (1 : Int32) : Int32) / 2 * 2 : Int32) = (1 : Int32)
                    ·
                      rw [if_pos g25, if_pos g25]
                      have par := fun hc => g_par1 (c := 1) hmn (by decide) g25 hc
                      unfold S_DR_root_J178 F_DR_root_J178
                      exact v_ro1 hR (by with_reducible assumption) (by with_reducible assumption) ⟨by omega, by omega⟩ hT nz2 (by decide) (by decide) (par (by decide)) _ _ _ _ ⟨by decide, by omega⟩ (by decide) (by decide) (by first | exact g_one | exact fun i hi => absurd hi (Nat.not_lt_zero _)) (fun h => absurd h (by decide))
                    ·
                      rw [if_neg g25, if_neg g25]
                      have par := fun hc => g_par0 (c := 0) hmn (by decide) g25 hc
                      unfold S_DR_root_J178 F_DR_root_J178
                      exact v_ro1 hR (by with_reducible assumption) (by with_reducible assumption) ⟨by omega, by omega⟩ hT nz2 (by decide) (by decide) (par (by decide)) _ _ _ _ ⟨by decide, by omega⟩ (by decide) (by decide) (by first | exact g_one | exact fun i hi => absurd hi (Nat.not_lt_zero _)) (fun h => absurd h (by decide))
                ·
                  rw [if_neg g20, if_neg g20]
                  have h26 := T_DR_load (x2 := x2) (t0_0 := (0 : Int32)) (t0_1 := t0_1) (t0_2 := t0_2) (t0_3 := t0_3) (t0_4 := t0_4) (t0_5 := t0_5) (t0_6 := t0_6) (t0_7 := t0_7) (t0_8 := t0_8) (t0_9 := t0_9) (t0_10 := (2 : Int32)) (t1_0 := t1_0) (t2_0 := t2_0) (t3_0 := t3_0) (t4_0 := t4_0) (t5_0 := t5_0) (by with_reducible assumption) (by with_reducible assumption)
                  with_reducible refine v_owe h26.1 ?_
                  replace h26 := h26.2
                  generalize F_DR_load x2 (0 : Int32) t0_1 t0_2 t0_3 t0_4 t0_5 t0_6 t0_7 t0_8 t0_9 (2 : Int32) t1_0 t2_0 t3_0 t4_0 t5_0 = p825 at *
                  unfold Q_DR_load at h26
                  obtain ⟨h261, h26g, h263, h264, h265, h266, h267⟩ := h26
                  have h264i := congrArg Int32.toInt h264
                  unfold S_DR_root_c110 F_DR_root_c110
                  have h27 := T_DR_toPrecision (x2 := x4) (x3 := (((t4_0 x2.toNatClampNeg : Int32) / 2 : Int32).toInt64 : Int64)) (x4 := x5) (x5 := x3) (t0_0 := (p825.1 : Int32)) (t0_1 := (p825.2.1 : Int32)) (t0_2 := (p825.2.2.1 : Int32)) (t0_3 := (p825.2.2.2.1 : Int64)) (t0_4 := (p825.2.2.2.2.1 : Int32)) (t0_5 := (p825.2.2.2.2.2.1 : Int32)) (t0_6 := (p825.2.2.2.2.2.2.1 : Int32)) (t0_7 := (p825.2.2.2.2.2.2.2.1 : Int32)) (t0_8 := (p825.2.2.2.2.2.2.2.2.1 : Int32)) (t0_9 := (p825.2.2.2.2.2.2.2.2.2.1 : Int32)) (t0_10 := (p825.2.2.2.2.2.2.2.2.2.2.1 : Int32)) (t1_0 := t1_0) (t2_0 := t2_0) (t3_0 := t3_0) (t4_0 := t4_0) (t5_0 := (p825.2.2.2.2.2.2.2.2.2.2.2 : (Nat → Int32))) (by with_reducible assumption) (by with_reducible assumption) ⟨by omega, by omega⟩ ⟨by omega, by omega⟩ (by with_reducible assumption) (fun hne => by omega)
                  with_reducible refine v_owe h27.1 ?_
                  replace h27 := h27.2
                  generalize F_DR_toPrecision x4 (((t4_0 x2.toNatClampNeg : Int32) / 2 : Int32).toInt64 : Int64) x5 x3 (p825.1 : Int32) (p825.2.1 : Int32) (p825.2.2.1 : Int32) (p825.2.2.2.1 : Int64) (p825.2.2.2.2.1 : Int32) (p825.2.2.2.2.2.1 : Int32) (p825.2.2.2.2.2.2.1 : Int32) (p825.2.2.2.2.2.2.2.1 : Int32) (p825.2.2.2.2.2.2.2.2.1 : Int32) (p825.2.2.2.2.2.2.2.2.2.1 : Int32) (p825.2.2.2.2.2.2.2.2.2.2.1 : Int32) t1_0 t2_0 t3_0 t4_0 (p825.2.2.2.2.2.2.2.2.2.2.2 : (Nat → Int32)) = p891 at *
                  unfold Q_DR_toPrecision at h27
                  unfold S_DR_root_c120 F_DR_root_c120
                  refine ⟨trivial, ?_⟩
                  (unfold Q_DR_root; dsimp only; with_reducible assumption)
            ·
              rw [if_neg g7, if_neg g7]
              unfold S_DR_root_J53 F_DR_root_J53
              have g28 : ¬ ((2 : Int32) ≤ (0 : Int32)) := (by decide)
              rw [if_neg g28, if_neg g28]
              refine ⟨trivial, ?_⟩
              (unfold Q_DR_root; dsimp only; with_reducible assumption)
          ·
            rw [if_neg g6, if_neg g6]
            have g6i : 1000 < x4.toInt := q_nleI g6
            unfold S_DR_root_J35 F_DR_root_J35
            unfold S_DR_root_J53 F_DR_root_J53
            have g29 : ¬ ((1 : Int32) ≤ (0 : Int32)) := (by decide)
            rw [if_neg g29, if_neg g29]
            refine ⟨trivial, ?_⟩
            (unfold Q_DR_root; dsimp only; with_reducible assumption)
      ·
        rw [if_neg g3, if_neg g3]
        unfold S_DR_root_J35 F_DR_root_J35
        unfold S_DR_root_J53 F_DR_root_J53
        have g30 : ¬ ((1 : Int32) ≤ (0 : Int32)) := (by decide)
        rw [if_neg g30, if_neg g30]
        refine ⟨trivial, ?_⟩
        (unfold Q_DR_root; dsimp only; with_reducible assumption)
    ·
      rw [if_neg g2, if_neg g2]
      unfold S_DR_root_J35 F_DR_root_J35
      unfold S_DR_root_J53 F_DR_root_J53
      have g31 : ¬ ((1 : Int32) ≤ (0 : Int32)) := (by decide)
      rw [if_neg g31, if_neg g31]
      refine ⟨trivial, ?_⟩
      (unfold Q_DR_root; dsimp only; with_reducible assumption)
  ·
    rw [if_neg g1, if_neg g1]
    unfold S_DR_root_J35 F_DR_root_J35
    unfold S_DR_root_J53 F_DR_root_J53
    have g32 : ¬ ((1 : Int32) ≤ (0 : Int32)) := (by decide)
    rw [if_neg g32, if_neg g32]
    refine ⟨trivial, ?_⟩
    (unfold Q_DR_root; dsimp only; with_reducible assumption)
