/-! put: what its exception depends on -/
def kPut (x2 x3 : Int32) (x4 : Int64) : Int32 := if ((0 ≤ x2.toInt ∧ x2.toInt ≤ 3) ∧ 0 ≤ x3.toInt ∧ x3.toInt ≤ 9) ∧ (x2 = 3 → lg_cmp ((x4.toUInt64 >>> ((32 : Int32).toInt64.toUInt64 &&& Int64.toUInt64 63)).toInt64) 0 = 0) then 0 else 1
theorem k_nreg {k x : Int32} (h : ¬ F_NH_needRegister k x = 0) : F_NH_needRegister k x = 1 ∧ ¬ ((0 ≤ k.toInt ∧ k.toInt ≤ 3) ∧ 0 ≤ x.toInt ∧ x.toInt ≤ 9) := by
  refine ⟨(k_reg k x).resolve_left h, fun ⟨⟨a, b⟩, c, d⟩ => h ?_⟩
  unfold F_NH_needRegister
  have e3 : (3 : Int32).toInt = 3 := rfl
  have e0 : (0 : Int32).toInt = 0 := rfl
  have e9 : (9 : Int32).toInt = 9 := rfl
  rw [if_neg (fun z => by have := q_ltI z; omega), if_neg (fun z => by have := q_ltI z; omega)]
  have e : ¬ F_NH_isRegister x = 0 := by
    unfold F_NH_isRegister
    rw [if_neg (fun z => by have := q_ltI z; omega)]
    have e10 : (10 : Int32).toInt = 10 := rfl
    rw [if_neg (fun z => by have := q_leI z; omega)]
    decide
  rw [if_neg e, if_pos v_need1]
def Q_kp (x2 x3 : Int32) (x4 : Int64) (p : Int32 × Int32 × Int32 × (Nat → Int32) × Int32 × Int32 × (Nat → Int32) × (Nat → Int64) × (Nat → Int64) × Int32 × Int32 × (Nat → Int32) × Int32 × Int32 × Int32 × Int32 × (Nat → Int32)) : Prop := p.1 = kPut x2 x3 x4
theorem K_put {x2 : Int32} {x3 : Int32} {x4 : Int64} {t0_0 : Int64} {t0_1 : Int32} {t1_0 : Int32} {t1_1 : Int32} {t2_0 : (Nat → Int32)} {t3_0 : Int32} {t3_1 : Int32} {t4_0 : (Nat → Int32)} {t5_0 : (Nat → Int64)} {t6_0 : (Nat → Int64)} {t7_0 : Int32} {t7_1 : Int32} {t8_0 : (Nat → Int32)} {t9_0 : Int32} {t9_1 : Int32} {t10_0 : Int32} {t10_1 : Int32} {t11_0 : (Nat → Int32)}  : Q_kp x2 x3 x4 (F_NH_put x2 x3 x4 t0_0 t0_1 t1_0 t1_1 t2_0 t3_0 t3_1 t4_0 t5_0 t6_0 t7_0 t7_1 t8_0 t9_0 t9_1 t10_0 t10_1 t11_0) := by
  unfold F_NH_put
  by_cases g1 : (F_NH_needRegister x2 x3) = (0 : Int32)
  ·
    rw [if_pos g1]
    have hr := v_needReg g1
    by_cases g2 : x2 = (3 : Int32)
    ·
      rw [if_pos g2]
      have h3 := g2
      by_cases g3 : (lg_cmp ((x4.toUInt64 >>> ((32 : Int32).toInt64.toUInt64 &&& Int64.toUInt64 63)).toInt64 : Int64) 0 : Int32) = (0 : Int32)
      ·
        rw [if_pos g3]
        have hg := g3
        unfold F_NH_put_J19
        unfold F_NH_put_J24
        rw [if_pos v_need1]
        by_cases g4 : x2 = (0 : Int32)
        ·
          rw [if_pos g4]
          generalize F_Big_setLong (68 : Int32) x4 t7_0 t7_1 t8_0 = p213 at *
          unfold F_NH_put_c38
          exact (show (0 : Int32) = kPut x2 x3 x4 from (if_pos ⟨hr, fun z => by first | exact hg | exact absurd z h3⟩).symm)
        ·
          rw [if_neg g4]
          by_cases g5 : x2 = (1 : Int32)
          ·
            rw [if_pos g5]
            generalize F_Big_setLong (220 : Int32) x4 t1_0 t1_1 t2_0 = p128 at *
            unfold F_NH_put_c57
            generalize F_DW_settle (220 : Int32) (0 : Int64) (108 : Int32) t3_0 t3_1 t4_0 (p128.1 : Int32) (p128.2.1 : Int32) (p128.2.2 : (Nat → Int32)) t9_0 t9_1 t10_0 t10_1 t11_0 = p176 at *
            unfold F_NH_put_c78
            exact (show (0 : Int32) = kPut x2 x3 x4 from (if_pos ⟨hr, fun z => by first | exact hg | exact absurd z h3⟩).symm)
          ·
            rw [if_neg g5]
            by_cases g6 : x2 = (2 : Int32)
            ·
              rw [if_pos g6]
              exact (show (0 : Int32) = kPut x2 x3 x4 from (if_pos ⟨hr, fun z => by first | exact hg | exact absurd z h3⟩).symm)
            ·
              rw [if_neg g6]
              exact (show (0 : Int32) = kPut x2 x3 x4 from (if_pos ⟨hr, fun z => by first | exact hg | exact absurd z h3⟩).symm)
      ·
        rw [if_neg g3]
        have hg := g3
        unfold F_NH_put_J24
        have g7 : ¬ ((F_NH_need (0 : Int32)) = (0 : Int32)) := (by rw [v_need0]; decide)
        rw [if_neg g7]
        exact (show F_NH_need 0 = kPut x2 x3 x4 from v_need0.trans (if_neg (fun z => hg (z.2 h3))).symm)
    ·
      rw [if_neg g2]
      have h3 := g2
      unfold F_NH_put_J19
      unfold F_NH_put_J24
      rw [if_pos v_need1]
      by_cases g8 : x2 = (0 : Int32)
      ·
        rw [if_pos g8]
        generalize F_Big_setLong (68 : Int32) x4 t7_0 t7_1 t8_0 = p213 at *
        unfold F_NH_put_c38
        exact (show (0 : Int32) = kPut x2 x3 x4 from (if_pos ⟨hr, fun z => by first | exact hg | exact absurd z h3⟩).symm)
      ·
        rw [if_neg g8]
        by_cases g9 : x2 = (1 : Int32)
        ·
          rw [if_pos g9]
          generalize F_Big_setLong (220 : Int32) x4 t1_0 t1_1 t2_0 = p128 at *
          unfold F_NH_put_c57
          generalize F_DW_settle (220 : Int32) (0 : Int64) (108 : Int32) t3_0 t3_1 t4_0 (p128.1 : Int32) (p128.2.1 : Int32) (p128.2.2 : (Nat → Int32)) t9_0 t9_1 t10_0 t10_1 t11_0 = p176 at *
          unfold F_NH_put_c78
          exact (show (0 : Int32) = kPut x2 x3 x4 from (if_pos ⟨hr, fun z => by first | exact hg | exact absurd z h3⟩).symm)
        ·
          rw [if_neg g9]
          by_cases g10 : x2 = (2 : Int32)
          ·
            rw [if_pos g10]
            exact (show (0 : Int32) = kPut x2 x3 x4 from (if_pos ⟨hr, fun z => by first | exact hg | exact absurd z h3⟩).symm)
          ·
            rw [if_neg g10]
            exact (show (0 : Int32) = kPut x2 x3 x4 from (if_pos ⟨hr, fun z => by first | exact hg | exact absurd z h3⟩).symm)
  ·
    rw [if_neg g1]
    have hr := k_nreg g1
    exact (show F_NH_needRegister x2 x3 = kPut x2 x3 x4 from hr.1.trans (if_neg (fun z => hr.2 z.1)).symm)

/-! the class's invariant: every register's content has its form, decimalWork.one is 1 -/
def iW (g : Nat → ClassId) (q : Nat → Nat) (u : va_W) (k : Nat) : Prop := ∃ (s n : Int32) (f : Nat → Int32), u[k]? = (some (q k, .inr (2, [.ref (q (k + 1)), .int s, .int n])) : Option (Nat × va_E)) ∧ u[k + 1]? = (some (q (k + 1), .inl (g 0, (68 : Int32).toNatClampNeg, .inl f)) : Option (Nat × va_E)) ∧ rW s n f
def iD (g : Nat → ClassId) (q : Nat → Nat) (u : va_W) (k : Nat) : Prop := ∃ (sc fc s n : Int32) (f : Nat → Int32), u[k]? = (some (q k, .inr (3, [.ref (q (k + 1)), .int sc, .int fc])) : Option (Nat × va_E)) ∧ u[k + 1]? = (some (q (k + 1), .inr (2, [.ref (q (k + 2)), .int s, .int n])) : Option (Nat × va_E)) ∧ u[k + 2]? = (some (q (k + 2), .inl (g 0, (108 : Int32).toNatClampNeg, .inl f)) : Option (Nat × va_E)) ∧ rD s n f sc fc
def iO (g : Nat → ClassId) (q : Nat → Nat) (u : va_W) : Prop := ∃ (sc fc s n : Int32) (f : Nat → Int32), u[31]? = (some (q 31, .inr (3, [.ref (q 32), .int sc, .int fc])) : Option (Nat × va_E)) ∧ u[32]? = (some (q 32, .inr (2, [.ref (q 33), .int s, .int n])) : Option (Nat × va_E)) ∧ u[33]? = (some (q 33, .inl (g 0, (3 : Int32).toNatClampNeg, .inl f)) : Option (Nat × va_E)) ∧ dO 3 s n f sc fc 1
def iC (g : Nat → ClassId) (q : Nat → Nat) (u : va_W) : Prop := (∀ i, i < 10 → iW g q u (66 + 5 * i)) ∧ (∀ i, i < 10 → iD g q u (68 + 5 * i)) ∧ iO g q u
def iP (g : Nat → ClassId) (q : Nat → Nat) (ws u : va_W) : Prop := q_I (nsh g q) q u ∧ iC g q u ∧ q_ge 116 ws u
theorem iW_fr {g : Nat → ClassId} {q : Nat → Nat} {ws u : va_W} {k : Nat} (h : iW g q ws k) (h0 : u[k]? = ws[k]?) (h1 : u[k + 1]? = ws[k + 1]?) : iW g q u k := by
  obtain ⟨s, hZ9⟩ := h
  obtain ⟨n, hZ9⟩ := hZ9
  obtain ⟨f, hZ9⟩ := hZ9
  obtain ⟨a, hZ9⟩ := hZ9
  obtain ⟨b, c⟩ := hZ9
  exact ⟨s, n, f, h0.trans a, h1.trans b, c⟩
theorem iD_fr {g : Nat → ClassId} {q : Nat → Nat} {ws u : va_W} {k : Nat} (h : iD g q ws k) (h0 : u[k]? = ws[k]?) (h1 : u[k + 1]? = ws[k + 1]?) (h2 : u[k + 2]? = ws[k + 2]?) : iD g q u k := by
  obtain ⟨sc, hZ9⟩ := h
  obtain ⟨fc, hZ9⟩ := hZ9
  obtain ⟨s, hZ9⟩ := hZ9
  obtain ⟨n, hZ9⟩ := hZ9
  obtain ⟨f, hZ9⟩ := hZ9
  obtain ⟨a, hZ9⟩ := hZ9
  obtain ⟨b, hZ9⟩ := hZ9
  obtain ⟨c, d⟩ := hZ9
  exact ⟨sc, fc, s, n, f, h0.trans a, h1.trans b, h2.trans c, d⟩
theorem iO_fr {g : Nat → ClassId} {q : Nat → Nat} {ws u : va_W} (h : iO g q ws) (h0 : u[31]? = ws[31]?) (h1 : u[32]? = ws[32]?) (h2 : u[33]? = ws[33]?) : iO g q u := by
  obtain ⟨sc, hZ9⟩ := h
  obtain ⟨fc, hZ9⟩ := hZ9
  obtain ⟨s, hZ9⟩ := hZ9
  obtain ⟨n, hZ9⟩ := hZ9
  obtain ⟨f, hZ9⟩ := hZ9
  obtain ⟨a, hZ9⟩ := hZ9
  obtain ⟨b, hZ9⟩ := hZ9
  obtain ⟨c, d⟩ := hZ9
  exact ⟨sc, fc, s, n, f, h0.trans a, h1.trans b, h2.trans c, d⟩
theorem iX (x : Int32) : ∃ i : Nat, i < 10 ∧ (x.toNatClampNeg < 10 → i = x.toNatClampNeg) := by
  by_cases h : x.toNatClampNeg < 10
  · exact ⟨_, h, fun _ => rfl⟩
  · exact ⟨0, by decide, fun h' => absurd h' h⟩
theorem q_MxV {l : Launch} {y : MethodName} {b : ByteArray} {n : Nat} {r : Option FieldType} {d mc ms : Nat} {D : va_G} {g : Nat → ClassId} {av : List Value} {ws : va_W} {sz : Nat} {P P' : va_W → Prop} {px px' : String → va_W → Prop} (h : q_Mx l y b n r d mc ms D g av ws sz (va_Qv P (q_B D g (va_A ws sz)) (va_A ws sz)) px) (hQ : ∀ u, P u → P' u) (hp : ∀ E u, px E u → px' E u) : q_Mx l y b n r d mc ms D g av ws sz (va_Qv P' (q_B D g (va_A ws sz)) (va_A ws sz)) px' := by
  refine MetFree.mono h (fun _ _ h => h) (fun _ _ _ _ _ h => h) ?_
  intro a s o t _ z
  rcases z with ⟨⟨⟨u, e1, e2, e3⟩, e4⟩, e5⟩ | ⟨k, E, ce, u, L, f1, f2, f3⟩
  · exact Or.inl ⟨⟨⟨u, e1, hQ u e2, e3⟩, e4⟩, e5⟩
  · exact Or.inr ⟨k, E, ce, u, L, f1, hp E u f2, f3⟩
theorem q_MxI {l : Launch} {y : MethodName} {b : ByteArray} {n : Nat} {r : Option FieldType} {d mc ms : Nat} {D : va_G} {g : Nat → ClassId} {av : List Value} {ws : va_W} {sz : Nat} {P P' : Int32 → va_W → Prop} {px px' : String → va_W → Prop} (h : q_Mx l y b n r d mc ms D g av ws sz (va_Qi P (q_B D g (va_A ws sz)) (va_A ws sz)) px) (hQ : ∀ x u, P x u → P' x u) (hp : ∀ E u, px E u → px' E u) : q_Mx l y b n r d mc ms D g av ws sz (va_Qi P' (q_B D g (va_A ws sz)) (va_A ws sz)) px' := by
  refine MetFree.mono h (fun _ _ h => h) (fun _ _ _ _ _ h => h) ?_
  intro a s o t _ z
  rcases z with ⟨⟨⟨x, u, e1, e2, e3⟩, e4⟩, e5⟩ | ⟨k, E, ce, u, L, f1, f2, f3⟩
  · exact Or.inl ⟨⟨⟨x, u, e1, hQ x u e2, e3⟩, e4⟩, e5⟩
  · exact Or.inr ⟨k, E, ce, u, L, f1, hp E u f2, f3⟩
theorem q_MxL {l : Launch} {y : MethodName} {b : ByteArray} {n : Nat} {r : Option FieldType} {d mc ms : Nat} {D : va_G} {g : Nat → ClassId} {av : List Value} {ws : va_W} {sz : Nat} {P P' : Int64 → va_W → Prop} {px px' : String → va_W → Prop} (h : q_Mx l y b n r d mc ms D g av ws sz (va_Ql P (q_B D g (va_A ws sz)) (va_A ws sz)) px) (hQ : ∀ x u, P x u → P' x u) (hp : ∀ E u, px E u → px' E u) : q_Mx l y b n r d mc ms D g av ws sz (va_Ql P' (q_B D g (va_A ws sz)) (va_A ws sz)) px' := by
  refine MetFree.mono h (fun _ _ h => h) (fun _ _ _ _ _ h => h) ?_
  intro a s o t _ z
  rcases z with ⟨⟨⟨x, u, e1, e2, e3⟩, e4⟩, e5⟩ | ⟨k, E, ce, u, L, f1, f2, f3⟩
  · exact Or.inl ⟨⟨⟨x, u, e1, hQ x u e2, e3⟩, e4⟩, e5⟩
  · exact Or.inr ⟨k, E, ce, u, L, f1, hp E u f2, f3⟩
set_option maxRecDepth 100000 in
theorem CV_compare (l : Launch) (D : va_G) (g : Nat → ClassId) (q : Nat → Nat) (ws : va_W) (x2 : Int32) (x3 : Int32) (x4 : Int32) (i3 : Nat) (hi3 : i3 < 10) (i4 : Nat) (hi4 : i4 < 10) (e3 : x3.toNatClampNeg < 10 → i3 = x3.toNatClampNeg) (e4 : x4.toNatClampNeg < 10 → i4 = x4.toNatClampNeg) (hlt : l.stackTraces = false) (hI : q_I (nsh g q) q ws) (hC : iC g q ws) : ∀ sz, q_Mx l y_NH_compare prog_1_method_7_code 9 (some .int) 9 3 18 D g [.ref (q 0), .int x2, .int x3, .int x4] ws sz (va_Qi (fun _ u => iP g q ws u) (q_B D g (va_A ws sz)) (va_A ws sz)) (fun E u => (∃ c : Int32, E = qE c ∧ (c = 1 ∨ c = 2)) ∧ iP g q ws u) := by
  intro sz
  obtain ⟨t0_0, t0_1, hT0, bT0⟩ := q_bigO hI (n_b22 g q)
  obtain ⟨t1_0, hT1, bT1⟩ := n_ai hI (n_s23 g q)
  obtain ⟨t2_0, t2_1, hT2, bT2⟩ := q_bigO hI (n_b24 g q)
  obtain ⟨t3_0, hT3, bT3⟩ := n_ai hI (n_s25 g q)
  obtain ⟨t4_0, hT4⟩ := n_al hI (n_s7 g q)
  obtain ⟨t5_0, hT5⟩ := n_al hI (n_s8 g q)
  obtain ⟨t6_0, hZ9⟩ := hC.1 i3 hi3
  obtain ⟨t6_1, hZ9⟩ := hZ9
  obtain ⟨t7_0, hZ9⟩ := hZ9
  obtain ⟨hT6, hZ9⟩ := hZ9
  obtain ⟨hT7, hZ9⟩ := hZ9
  obtain ⟨vk3, hZ9⟩ := hZ9
  obtain ⟨hbk3, hBk3⟩ := hZ9
  obtain ⟨t8_0, hZ9⟩ := hC.2.1 i3 hi3
  obtain ⟨t8_1, hZ9⟩ := hZ9
  obtain ⟨t9_0, hZ9⟩ := hZ9
  obtain ⟨t9_1, hZ9⟩ := hZ9
  obtain ⟨t10_0, hZ9⟩ := hZ9
  obtain ⟨hT8, hZ9⟩ := hZ9
  obtain ⟨hT9, hZ9⟩ := hZ9
  obtain ⟨hT10, hZ9⟩ := hZ9
  obtain ⟨vd3, hbd3⟩ := hZ9
  obtain ⟨t11_0, hZ9⟩ := hC.1 i4 hi4
  obtain ⟨t11_1, hZ9⟩ := hZ9
  obtain ⟨t12_0, hZ9⟩ := hZ9
  obtain ⟨hT11, hZ9⟩ := hZ9
  obtain ⟨hT12, hZ9⟩ := hZ9
  obtain ⟨vk4, hZ9⟩ := hZ9
  obtain ⟨hbk4, hBk4⟩ := hZ9
  obtain ⟨t13_0, hZ9⟩ := hC.2.1 i4 hi4
  obtain ⟨t13_1, hZ9⟩ := hZ9
  obtain ⟨t14_0, hZ9⟩ := hZ9
  obtain ⟨t14_1, hZ9⟩ := hZ9
  obtain ⟨t15_0, hZ9⟩ := hZ9
  obtain ⟨hT13, hZ9⟩ := hZ9
  obtain ⟨hT14, hZ9⟩ := hZ9
  obtain ⟨hT15, hZ9⟩ := hZ9
  obtain ⟨vd4, hbd4⟩ := hZ9
  have hq := T_compare (x2 := x2) (x3 := x3) (x4 := x4) (t0_0 := t0_0) (t0_1 := t0_1) (t1_0 := t1_0) (t2_0 := t2_0) (t2_1 := t2_1) (t3_0 := t3_0) (t4_0 := t4_0) (t5_0 := t5_0) (t6_0 := t6_0) (t6_1 := t6_1) (t7_0 := t7_0) (t8_0 := t8_0) (t8_1 := t8_1) (t9_0 := t9_0) (t9_1 := t9_1) (t10_0 := t10_0) (t11_0 := t11_0) (t11_1 := t11_1) (t12_0 := t12_0) (t13_0 := t13_0) (t13_1 := t13_1) (t14_0 := t14_0) (t14_1 := t14_1) (t15_0 := t15_0) 
  refine q_MxI (X_NH_compare l D g q ws x2 x3 x4 (66 + 5 * i3) (n_w g q hi3) (by omega) (fun h => by have z := e3 h; omega) (68 + 5 * i3) (n_d g q hi3) (by omega) (fun h => by have z := e3 h; omega) (66 + 5 * i4) (n_w g q hi4) (by omega) (fun h => by have z := e4 h; omega) (68 + 5 * i4) (n_d g q hi4) (by omega) (fun h => by have z := e4 h; omega) hlt hI t0_0 t0_1 hT0 t1_0 hT1 t2_0 t2_1 hT2 t3_0 hT3 t4_0 hT4 t5_0 hT5 t6_0 t6_1 hT6 t7_0 hT7 t8_0 t8_1 hT8 t9_0 t9_1 hT9 t10_0 hT10 t11_0 t11_1 hT11 t12_0 hT12 t13_0 t13_1 hT13 t14_0 t14_1 hT14 t15_0 hT15 ⟨trivial, hq⟩ sz) ?_ ?_
  · rintro r u hZ9
    obtain ⟨hI2, hZ9⟩ := hZ9
    obtain ⟨hun, hZ9⟩ := hZ9
    obtain ⟨u0_0, hZ9⟩ := hZ9
    obtain ⟨u0_1, hZ9⟩ := hZ9
    obtain ⟨u1_0, hZ9⟩ := hZ9
    obtain ⟨u2_0, hZ9⟩ := hZ9
    obtain ⟨u2_1, hZ9⟩ := hZ9
    obtain ⟨u3_0, hZ9⟩ := hZ9
    obtain ⟨hU0, hZ9⟩ := hZ9
    obtain ⟨hU1, hZ9⟩ := hZ9
    obtain ⟨hU2, hZ9⟩ := hZ9
    obtain ⟨hU3, hR⟩ := hZ9
    refine ⟨hI2, ⟨fun i hi => ?_, fun i hi => ?_, ?_⟩, fun i hi => hun i (by simp only [List.mem_cons, List.not_mem_nil, or_false, not_or]; omega)⟩
    · exact iW_fr (hC.1 i hi) (hun _ (by simp only [List.mem_cons, List.not_mem_nil, or_false, not_or]; omega)) (hun _ (by simp only [List.mem_cons, List.not_mem_nil, or_false, not_or]; omega))
    · exact iD_fr (hC.2.1 i hi) (hun _ (by simp only [List.mem_cons, List.not_mem_nil, or_false, not_or]; omega)) (hun _ (by simp only [List.mem_cons, List.not_mem_nil, or_false, not_or]; omega)) (hun _ (by simp only [List.mem_cons, List.not_mem_nil, or_false, not_or]; omega))
    · exact iO_fr hC.2.2 (hun _ (by simp only [List.mem_cons, List.not_mem_nil, or_false, not_or]; omega)) (hun _ (by simp only [List.mem_cons, List.not_mem_nil, or_false, not_or]; omega)) (hun _ (by simp only [List.mem_cons, List.not_mem_nil, or_false, not_or]; omega))
  · rintro E u hZ9
    obtain ⟨c, hZ9⟩ := hZ9
    obtain ⟨hE, hZ9⟩ := hZ9
    obtain ⟨hc, hZ9⟩ := hZ9
    obtain ⟨hI2, hZ9⟩ := hZ9
    obtain ⟨hun, hZ9⟩ := hZ9
    obtain ⟨u0_0, hZ9⟩ := hZ9
    obtain ⟨u0_1, hZ9⟩ := hZ9
    obtain ⟨u1_0, hZ9⟩ := hZ9
    obtain ⟨u2_0, hZ9⟩ := hZ9
    obtain ⟨u2_1, hZ9⟩ := hZ9
    obtain ⟨u3_0, hZ9⟩ := hZ9
    obtain ⟨hU0, hZ9⟩ := hZ9
    obtain ⟨hU1, hZ9⟩ := hZ9
    obtain ⟨hU2, hZ9⟩ := hZ9
    obtain ⟨hU3, hF⟩ := hZ9
    have hk := K_NH_compare (x2 := x2) (x3 := x3) (x4 := x4) (t0_0 := t0_0) (t0_1 := t0_1) (t1_0 := t1_0) (t2_0 := t2_0) (t2_1 := t2_1) (t3_0 := t3_0) (t4_0 := t4_0) (t5_0 := t5_0) (t6_0 := t6_0) (t6_1 := t6_1) (t7_0 := t7_0) (t8_0 := t8_0) (t8_1 := t8_1) (t9_0 := t9_0) (t9_1 := t9_1) (t10_0 := t10_0) (t11_0 := t11_0) (t11_1 := t11_1) (t12_0 := t12_0) (t13_0 := t13_0) (t13_1 := t13_1) (t14_0 := t14_0) (t14_1 := t14_1) (t15_0 := t15_0)
    rw [← hF] at hk
    replace hk : kC12 c := hk
    refine ⟨⟨c, hE, hk.resolve_left hc⟩, hI2, ⟨fun i hi => ?_, fun i hi => ?_, ?_⟩, fun i hi => hun i (by simp only [List.mem_cons, List.not_mem_nil, or_false, not_or]; omega)⟩
    · exact iW_fr (hC.1 i hi) (hun _ (by simp only [List.mem_cons, List.not_mem_nil, or_false, not_or]; omega)) (hun _ (by simp only [List.mem_cons, List.not_mem_nil, or_false, not_or]; omega))
    · exact iD_fr (hC.2.1 i hi) (hun _ (by simp only [List.mem_cons, List.not_mem_nil, or_false, not_or]; omega)) (hun _ (by simp only [List.mem_cons, List.not_mem_nil, or_false, not_or]; omega)) (hun _ (by simp only [List.mem_cons, List.not_mem_nil, or_false, not_or]; omega))
    · exact iO_fr hC.2.2 (hun _ (by simp only [List.mem_cons, List.not_mem_nil, or_false, not_or]; omega)) (hun _ (by simp only [List.mem_cons, List.not_mem_nil, or_false, not_or]; omega)) (hun _ (by simp only [List.mem_cons, List.not_mem_nil, or_false, not_or]; omega))
set_option maxRecDepth 100000 in
theorem CV_put (l : Launch) (D : va_G) (g : Nat → ClassId) (q : Nat → Nat) (ws : va_W) (x2 : Int32) (x3 : Int32) (x4 : Int64) (i3 : Nat) (hi3 : i3 < 10) (e3 : x3.toNatClampNeg < 10 → i3 = x3.toNatClampNeg) (hlt : l.stackTraces = false) (hI : q_I (nsh g q) q ws) (hC : iC g q ws) : ∀ sz, q_Mx l y_NH_put prog_1_method_5_code 5 none 9 2 12 D g [.ref (q 0), .int x2, .int x3, .long x4] ws sz (va_Qv (fun u => iP g q ws u ∧ kPut x2 x3 x4 = 0) (q_B D g (va_A ws sz)) (va_A ws sz)) (fun E u => (∃ c : Int32, E = qE c ∧ (c = 1)) ∧ iP g q ws u ∧ kPut x2 x3 x4 = 1) := by
  intro sz
  obtain ⟨t0_0, t0_1, hT0, bT0⟩ := n_o30 hI
  obtain ⟨t1_0, t1_1, hT1, bT1⟩ := q_bigO hI (n_b10 g q)
  obtain ⟨t2_0, hT2, bT2⟩ := n_ai hI (n_s11 g q)
  obtain ⟨t3_0, t3_1, hT3, bT3⟩ := q_bigO hI (n_b20 g q)
  obtain ⟨t4_0, hT4, bT4⟩ := n_ai hI (n_s21 g q)
  obtain ⟨t5_0, hT5⟩ := n_al hI (n_s7 g q)
  obtain ⟨t6_0, hT6⟩ := n_al hI (n_s8 g q)
  obtain ⟨t7_0, hZ9⟩ := hC.1 i3 hi3
  obtain ⟨t7_1, hZ9⟩ := hZ9
  obtain ⟨t8_0, hZ9⟩ := hZ9
  obtain ⟨hT7, hZ9⟩ := hZ9
  obtain ⟨hT8, hZ9⟩ := hZ9
  obtain ⟨vk3, hZ9⟩ := hZ9
  obtain ⟨hbk3, hBk3⟩ := hZ9
  obtain ⟨t9_0, hZ9⟩ := hC.2.1 i3 hi3
  obtain ⟨t9_1, hZ9⟩ := hZ9
  obtain ⟨t10_0, hZ9⟩ := hZ9
  obtain ⟨t10_1, hZ9⟩ := hZ9
  obtain ⟨t11_0, hZ9⟩ := hZ9
  obtain ⟨hT9, hZ9⟩ := hZ9
  obtain ⟨hT10, hZ9⟩ := hZ9
  obtain ⟨hT11, hZ9⟩ := hZ9
  obtain ⟨vd3, hbd3⟩ := hZ9
  have hq := T_put (x2 := x2) (x3 := x3) (x4 := x4) (t0_0 := t0_0) (t0_1 := t0_1) (t1_0 := t1_0) (t1_1 := t1_1) (t2_0 := t2_0) (t3_0 := t3_0) (t3_1 := t3_1) (t4_0 := t4_0) (t5_0 := t5_0) (t6_0 := t6_0) (t7_0 := t7_0) (t7_1 := t7_1) (t8_0 := t8_0) (t9_0 := t9_0) (t9_1 := t9_1) (t10_0 := t10_0) (t10_1 := t10_1) (t11_0 := t11_0) ⟨_, hbk3, hBk3⟩ ⟨_, hbd3⟩
  refine q_MxV (X_NH_put l D g q ws x2 x3 x4 (66 + 5 * i3) (n_w g q hi3) (by omega) (fun h => by have z := e3 h; omega) (68 + 5 * i3) (n_d g q hi3) (by omega) (fun h => by have z := e3 h; omega) (by omega) (by omega) (by omega) (by omega) hlt hI t0_0 t0_1 hT0 t1_0 t1_1 hT1 t2_0 hT2 t3_0 t3_1 hT3 t4_0 hT4 t5_0 hT5 t6_0 hT6 t7_0 t7_1 hT7 t8_0 hT8 t9_0 t9_1 hT9 t10_0 t10_1 hT10 t11_0 hT11 ⟨trivial, hq.1⟩ sz) ?_ ?_
  · rintro u hZ9
    obtain ⟨hI2, hZ9⟩ := hZ9
    obtain ⟨hun, hZ9⟩ := hZ9
    obtain ⟨u1_0, hZ9⟩ := hZ9
    obtain ⟨u1_1, hZ9⟩ := hZ9
    obtain ⟨u2_0, hZ9⟩ := hZ9
    obtain ⟨u3_0, hZ9⟩ := hZ9
    obtain ⟨u3_1, hZ9⟩ := hZ9
    obtain ⟨u4_0, hZ9⟩ := hZ9
    obtain ⟨u5_0, hZ9⟩ := hZ9
    obtain ⟨u6_0, hZ9⟩ := hZ9
    obtain ⟨u7_0, hZ9⟩ := hZ9
    obtain ⟨u7_1, hZ9⟩ := hZ9
    obtain ⟨u8_0, hZ9⟩ := hZ9
    obtain ⟨u9_0, hZ9⟩ := hZ9
    obtain ⟨u9_1, hZ9⟩ := hZ9
    obtain ⟨u10_0, hZ9⟩ := hZ9
    obtain ⟨u10_1, hZ9⟩ := hZ9
    obtain ⟨u11_0, hZ9⟩ := hZ9
    obtain ⟨hU0, hZ9⟩ := hZ9
    obtain ⟨hU1, hZ9⟩ := hZ9
    obtain ⟨hU2, hZ9⟩ := hZ9
    obtain ⟨hU3, hZ9⟩ := hZ9
    obtain ⟨hU4, hZ9⟩ := hZ9
    obtain ⟨hU5, hZ9⟩ := hZ9
    obtain ⟨hU6, hZ9⟩ := hZ9
    obtain ⟨hU7, hZ9⟩ := hZ9
    obtain ⟨hU8, hZ9⟩ := hZ9
    obtain ⟨hU9, hZ9⟩ := hZ9
    obtain ⟨hU10, hR⟩ := hZ9
    have hF := hR.2.2.2.2.2.2.2.2.2.2.2.2.2.2.2.2.2.2.2.2.2.2.2.2.2.2.2.2.2.2.2.2.2.2.2.2.2.2.2.2.2.2
    have hp := hq.2
    rw [← hF] at hp
    have hz := K_put (x2 := x2) (x3 := x3) (x4 := x4) (t0_0 := t0_0) (t0_1 := t0_1) (t1_0 := t1_0) (t1_1 := t1_1) (t2_0 := t2_0) (t3_0 := t3_0) (t3_1 := t3_1) (t4_0 := t4_0) (t5_0 := t5_0) (t6_0 := t6_0) (t7_0 := t7_0) (t7_1 := t7_1) (t8_0 := t8_0) (t9_0 := t9_0) (t9_1 := t9_1) (t10_0 := t10_0) (t10_1 := t10_1) (t11_0 := t11_0)
    rw [← hF] at hz
    replace hz : (0 : Int32) = kPut x2 x3 x4 := hz
    refine ⟨⟨hI2, ⟨fun i hi => ?_, fun i hi => ?_, ?_⟩, fun i hi => hun i (by simp only [List.mem_cons, List.not_mem_nil, or_false, not_or]; omega)⟩, hz.symm⟩
    · by_cases hk3 : i = i3
      · rw [hk3]; refine ⟨_, _, _, hU6, hU7, ?_⟩; first | exact hp.1
      · exact iW_fr (hC.1 i hi) (hun _ (by simp only [List.mem_cons, List.not_mem_nil, or_false, not_or]; omega)) (hun _ (by simp only [List.mem_cons, List.not_mem_nil, or_false, not_or]; omega))
    · by_cases hd3 : i = i3
      · rw [hd3]; refine ⟨_, _, _, _, _, hU8, hU9, hU10, ?_⟩; first | exact hp.2
      · exact iD_fr (hC.2.1 i hi) (hun _ (by simp only [List.mem_cons, List.not_mem_nil, or_false, not_or]; omega)) (hun _ (by simp only [List.mem_cons, List.not_mem_nil, or_false, not_or]; omega)) (hun _ (by simp only [List.mem_cons, List.not_mem_nil, or_false, not_or]; omega))
    · exact iO_fr hC.2.2 (hun _ (by simp only [List.mem_cons, List.not_mem_nil, or_false, not_or]; omega)) (hun _ (by simp only [List.mem_cons, List.not_mem_nil, or_false, not_or]; omega)) (hun _ (by simp only [List.mem_cons, List.not_mem_nil, or_false, not_or]; omega))
  · rintro E u hZ9
    obtain ⟨c, hZ9⟩ := hZ9
    obtain ⟨hE, hZ9⟩ := hZ9
    obtain ⟨hc, hZ9⟩ := hZ9
    obtain ⟨hI2, hZ9⟩ := hZ9
    obtain ⟨hun, hZ9⟩ := hZ9
    obtain ⟨u1_0, hZ9⟩ := hZ9
    obtain ⟨u1_1, hZ9⟩ := hZ9
    obtain ⟨u2_0, hZ9⟩ := hZ9
    obtain ⟨u3_0, hZ9⟩ := hZ9
    obtain ⟨u3_1, hZ9⟩ := hZ9
    obtain ⟨u4_0, hZ9⟩ := hZ9
    obtain ⟨u5_0, hZ9⟩ := hZ9
    obtain ⟨u6_0, hZ9⟩ := hZ9
    obtain ⟨u7_0, hZ9⟩ := hZ9
    obtain ⟨u7_1, hZ9⟩ := hZ9
    obtain ⟨u8_0, hZ9⟩ := hZ9
    obtain ⟨u9_0, hZ9⟩ := hZ9
    obtain ⟨u9_1, hZ9⟩ := hZ9
    obtain ⟨u10_0, hZ9⟩ := hZ9
    obtain ⟨u10_1, hZ9⟩ := hZ9
    obtain ⟨u11_0, hZ9⟩ := hZ9
    obtain ⟨hU0, hZ9⟩ := hZ9
    obtain ⟨hU1, hZ9⟩ := hZ9
    obtain ⟨hU2, hZ9⟩ := hZ9
    obtain ⟨hU3, hZ9⟩ := hZ9
    obtain ⟨hU4, hZ9⟩ := hZ9
    obtain ⟨hU5, hZ9⟩ := hZ9
    obtain ⟨hU6, hZ9⟩ := hZ9
    obtain ⟨hU7, hZ9⟩ := hZ9
    obtain ⟨hU8, hZ9⟩ := hZ9
    obtain ⟨hU9, hZ9⟩ := hZ9
    obtain ⟨hU10, hF⟩ := hZ9
    have hp := hq.2
    rw [← hF] at hp
    have hk := K_NH_put (x2 := x2) (x3 := x3) (x4 := x4) (t0_0 := t0_0) (t0_1 := t0_1) (t1_0 := t1_0) (t1_1 := t1_1) (t2_0 := t2_0) (t3_0 := t3_0) (t3_1 := t3_1) (t4_0 := t4_0) (t5_0 := t5_0) (t6_0 := t6_0) (t7_0 := t7_0) (t7_1 := t7_1) (t8_0 := t8_0) (t9_0 := t9_0) (t9_1 := t9_1) (t10_0 := t10_0) (t10_1 := t10_1) (t11_0 := t11_0)
    rw [← hF] at hk
    replace hk : kC1 c := hk
    have hz := K_put (x2 := x2) (x3 := x3) (x4 := x4) (t0_0 := t0_0) (t0_1 := t0_1) (t1_0 := t1_0) (t1_1 := t1_1) (t2_0 := t2_0) (t3_0 := t3_0) (t3_1 := t3_1) (t4_0 := t4_0) (t5_0 := t5_0) (t6_0 := t6_0) (t7_0 := t7_0) (t7_1 := t7_1) (t8_0 := t8_0) (t9_0 := t9_0) (t9_1 := t9_1) (t10_0 := t10_0) (t10_1 := t10_1) (t11_0 := t11_0)
    rw [← hF] at hz
    replace hz : c = kPut x2 x3 x4 := hz
    refine ⟨⟨c, hE, hk.resolve_left hc⟩, ⟨hI2, ⟨fun i hi => ?_, fun i hi => ?_, ?_⟩, fun i hi => hun i (by simp only [List.mem_cons, List.not_mem_nil, or_false, not_or]; omega)⟩, hz.symm.trans (hk.resolve_left hc)⟩
    · by_cases hk3 : i = i3
      · rw [hk3]; refine ⟨_, _, _, hU6, hU7, ?_⟩; first | exact hp.1
      · exact iW_fr (hC.1 i hi) (hun _ (by simp only [List.mem_cons, List.not_mem_nil, or_false, not_or]; omega)) (hun _ (by simp only [List.mem_cons, List.not_mem_nil, or_false, not_or]; omega))
    · by_cases hd3 : i = i3
      · rw [hd3]; refine ⟨_, _, _, _, _, hU8, hU9, hU10, ?_⟩; first | exact hp.2
      · exact iD_fr (hC.2.1 i hi) (hun _ (by simp only [List.mem_cons, List.not_mem_nil, or_false, not_or]; omega)) (hun _ (by simp only [List.mem_cons, List.not_mem_nil, or_false, not_or]; omega)) (hun _ (by simp only [List.mem_cons, List.not_mem_nil, or_false, not_or]; omega))
    · exact iO_fr hC.2.2 (hun _ (by simp only [List.mem_cons, List.not_mem_nil, or_false, not_or]; omega)) (hun _ (by simp only [List.mem_cons, List.not_mem_nil, or_false, not_or]; omega)) (hun _ (by simp only [List.mem_cons, List.not_mem_nil, or_false, not_or]; omega))

set_option maxRecDepth 100000 in
theorem CV_feed (l : Launch) (D : va_G) (g : Nat → ClassId) (q : Nat → Nat) (ws : va_W) (x2 : Int32) (x3 : Int64) (hlt : l.stackTraces = false) (hI : q_I (nsh g q) q ws) (hC : iC g q ws) : ∀ sz, q_Mx l y_NH_feed prog_1_method_2_code 5 (some .int) 8 1 6 D g [.ref (q 0), .int x2, .long x3] ws sz (va_Qi (fun _ u => iP g q ws u) (q_B D g (va_A ws sz)) (va_A ws sz)) (fun E u => (∃ c : Int32, E = qE c ∧ (c = 1)) ∧ iP g q ws u) := by
  intro sz
  obtain ⟨t0_0, hT0, bT0⟩ := n_shO hI (n_h1 g q)
  obtain ⟨t1_0, hT1⟩ := n_al hI (n_s2 g q)
  have hq := T_feed (x2 := x2) (x3 := x3) (t0_0 := t0_0) (t1_0 := t1_0) (by first | exact bT0 | exact bT0.1 | exact bT0.2 | exact bT0.2.1 | exact bT0.2.2 | exact bT0.1.1)
  refine q_MxI (X_NH_feed l D g q ws x2 x3 hlt hI t0_0 hT0 t1_0 hT1 ⟨trivial, hq⟩ sz) ?_ ?_
  · rintro r u hZ9
    obtain ⟨hI2, hZ9⟩ := hZ9
    obtain ⟨hun, hZ9⟩ := hZ9
    obtain ⟨u0_0, hZ9⟩ := hZ9
    obtain ⟨u1_0, hZ9⟩ := hZ9
    obtain ⟨hU0, hZ9⟩ := hZ9
    obtain ⟨hU1, hR⟩ := hZ9
    refine ⟨hI2, ⟨fun i hi => ?_, fun i hi => ?_, ?_⟩, fun i hi => hun i (by simp only [List.mem_cons, List.not_mem_nil, or_false, not_or]; omega)⟩
    · exact iW_fr (hC.1 i hi) (hun _ (by simp only [List.mem_cons, List.not_mem_nil, or_false, not_or]; omega)) (hun _ (by simp only [List.mem_cons, List.not_mem_nil, or_false, not_or]; omega))
    · exact iD_fr (hC.2.1 i hi) (hun _ (by simp only [List.mem_cons, List.not_mem_nil, or_false, not_or]; omega)) (hun _ (by simp only [List.mem_cons, List.not_mem_nil, or_false, not_or]; omega)) (hun _ (by simp only [List.mem_cons, List.not_mem_nil, or_false, not_or]; omega))
    · exact iO_fr hC.2.2 (hun _ (by simp only [List.mem_cons, List.not_mem_nil, or_false, not_or]; omega)) (hun _ (by simp only [List.mem_cons, List.not_mem_nil, or_false, not_or]; omega)) (hun _ (by simp only [List.mem_cons, List.not_mem_nil, or_false, not_or]; omega))
  · rintro E u hZ9
    obtain ⟨c, hZ9⟩ := hZ9
    obtain ⟨hE, hZ9⟩ := hZ9
    obtain ⟨hc, hZ9⟩ := hZ9
    obtain ⟨hI2, hZ9⟩ := hZ9
    obtain ⟨hun, hZ9⟩ := hZ9
    obtain ⟨u0_0, hZ9⟩ := hZ9
    obtain ⟨u1_0, hZ9⟩ := hZ9
    obtain ⟨hU0, hZ9⟩ := hZ9
    obtain ⟨hU1, hF⟩ := hZ9
    have hk := K_NH_feed (x2 := x2) (x3 := x3) (t0_0 := t0_0) (t1_0 := t1_0)
    rw [← hF] at hk
    replace hk : kC1 c := hk
    refine ⟨⟨c, hE, hk.resolve_left hc⟩, hI2, ⟨fun i hi => ?_, fun i hi => ?_, ?_⟩, fun i hi => hun i (by simp only [List.mem_cons, List.not_mem_nil, or_false, not_or]; omega)⟩
    · exact iW_fr (hC.1 i hi) (hun _ (by simp only [List.mem_cons, List.not_mem_nil, or_false, not_or]; omega)) (hun _ (by simp only [List.mem_cons, List.not_mem_nil, or_false, not_or]; omega))
    · exact iD_fr (hC.2.1 i hi) (hun _ (by simp only [List.mem_cons, List.not_mem_nil, or_false, not_or]; omega)) (hun _ (by simp only [List.mem_cons, List.not_mem_nil, or_false, not_or]; omega)) (hun _ (by simp only [List.mem_cons, List.not_mem_nil, or_false, not_or]; omega))
    · exact iO_fr hC.2.2 (hun _ (by simp only [List.mem_cons, List.not_mem_nil, or_false, not_or]; omega)) (hun _ (by simp only [List.mem_cons, List.not_mem_nil, or_false, not_or]; omega)) (hun _ (by simp only [List.mem_cons, List.not_mem_nil, or_false, not_or]; omega))
set_option maxRecDepth 100000 in
theorem CV_told (l : Launch) (D : va_G) (g : Nat → ClassId) (q : Nat → Nat) (ws : va_W) (x2 : Int32) (x3 : Int32) (x4 : Int32) (i3 : Nat) (hi3 : i3 < 10) (e3 : x3.toNatClampNeg < 10 → i3 = x3.toNatClampNeg) (hlt : l.stackTraces = false) (hI : q_I (nsh g q) q ws) (hC : iC g q ws) : ∀ sz, q_Mx l y_NH_told prog_1_method_6_code 7 (some .long) 9 4 24 D g [.ref (q 0), .int x2, .int x3, .int x4] ws sz (va_Ql (fun _ u => iP g q ws u) (q_B D g (va_A ws sz)) (va_A ws sz)) (fun E u => (∃ c : Int32, E = qE c ∧ (c = 1 ∨ c = 2)) ∧ iP g q ws u) := by
  intro sz
  obtain ⟨t0_0, t0_1, hT0, bT0⟩ := q_bigO hI (n_b10 g q)
  obtain ⟨t1_0, hT1, bT1⟩ := n_ai hI (n_s11 g q)
  obtain ⟨t2_0, t2_1, hT2, bT2⟩ := n_o36 hI
  obtain ⟨t3_0, hT3, bT3⟩ := n_ai hI (n_s37 g q)
  obtain ⟨t4_0, hT4⟩ := n_al hI (n_s7 g q)
  obtain ⟨t5_0, hT5⟩ := n_al hI (n_s8 g q)
  obtain ⟨t6_0, t6_1, hT6, bT6⟩ := q_bigO hI (n_b22 g q)
  obtain ⟨t7_0, hT7, bT7⟩ := n_ai hI (n_s23 g q)
  obtain ⟨t8_0, t8_1, hT8, bT8⟩ := q_bigO hI (n_b24 g q)
  obtain ⟨t9_0, hT9, bT9⟩ := n_ai hI (n_s25 g q)
  obtain ⟨t10_0, t10_1, hT10, bT10⟩ := q_bigO hI (n_b26 g q)
  obtain ⟨t11_0, hT11, bT11⟩ := n_ai hI (n_s27 g q)
  obtain ⟨t12_0, t12_1, hT12, bT12⟩ := q_bigO hI (n_b28 g q)
  obtain ⟨t13_0, hT13, bT13⟩ := n_ai hI (n_s29 g q)
  obtain ⟨t14_0, t14_1, t14_2, hT14⟩ := n_flO hI (n_f34 g q)
  obtain ⟨t15_0, t15_1, t15_2, hT15⟩ := n_flO hI (n_f35 g q)
  obtain ⟨t16_0, hZ9⟩ := hC.1 i3 hi3
  obtain ⟨t16_1, hZ9⟩ := hZ9
  obtain ⟨t17_0, hZ9⟩ := hZ9
  obtain ⟨hT16, hZ9⟩ := hZ9
  obtain ⟨hT17, hZ9⟩ := hZ9
  obtain ⟨vk3, hZ9⟩ := hZ9
  obtain ⟨hbk3, hBk3⟩ := hZ9
  obtain ⟨t18_0, hZ9⟩ := hC.2.1 i3 hi3
  obtain ⟨t18_1, hZ9⟩ := hZ9
  obtain ⟨t19_0, hZ9⟩ := hZ9
  obtain ⟨t19_1, hZ9⟩ := hZ9
  obtain ⟨t20_0, hZ9⟩ := hZ9
  obtain ⟨hT18, hZ9⟩ := hZ9
  obtain ⟨hT19, hZ9⟩ := hZ9
  obtain ⟨hT20, hZ9⟩ := hZ9
  obtain ⟨vd3, hbd3⟩ := hZ9
  have hq := T_told (x2 := x2) (x3 := x3) (x4 := x4) (t0_0 := t0_0) (t0_1 := t0_1) (t1_0 := t1_0) (t2_0 := t2_0) (t2_1 := t2_1) (t3_0 := t3_0) (t4_0 := t4_0) (t5_0 := t5_0) (t6_0 := t6_0) (t6_1 := t6_1) (t7_0 := t7_0) (t8_0 := t8_0) (t8_1 := t8_1) (t9_0 := t9_0) (t10_0 := t10_0) (t10_1 := t10_1) (t11_0 := t11_0) (t12_0 := t12_0) (t12_1 := t12_1) (t13_0 := t13_0) (t14_0 := t14_0) (t14_1 := t14_1) (t14_2 := t14_2) (t15_0 := t15_0) (t15_1 := t15_1) (t15_2 := t15_2) (t16_0 := t16_0) (t16_1 := t16_1) (t17_0 := t17_0) (t18_0 := t18_0) (t18_1 := t18_1) (t19_0 := t19_0) (t19_1 := t19_1) (t20_0 := t20_0) 
  refine q_MxL (X_NH_told l D g q ws x2 x3 x4 (66 + 5 * i3) (n_w g q hi3) (by omega) (fun h => by have z := e3 h; omega) (68 + 5 * i3) (n_d g q hi3) (by omega) (fun h => by have z := e3 h; omega) (by omega) (by omega) (by omega) (by omega) hlt hI t0_0 t0_1 hT0 t1_0 hT1 t2_0 t2_1 hT2 t3_0 hT3 t4_0 hT4 t5_0 hT5 t6_0 t6_1 hT6 t7_0 hT7 t8_0 t8_1 hT8 t9_0 hT9 t10_0 t10_1 hT10 t11_0 hT11 t12_0 t12_1 hT12 t13_0 hT13 t14_0 t14_1 t14_2 hT14 t15_0 t15_1 t15_2 hT15 t16_0 t16_1 hT16 t17_0 hT17 t18_0 t18_1 hT18 t19_0 t19_1 hT19 t20_0 hT20 ⟨trivial, hq⟩ sz) ?_ ?_
  · rintro r u hZ9
    obtain ⟨hI2, hZ9⟩ := hZ9
    obtain ⟨hun, hZ9⟩ := hZ9
    obtain ⟨u0_0, hZ9⟩ := hZ9
    obtain ⟨u0_1, hZ9⟩ := hZ9
    obtain ⟨u1_0, hZ9⟩ := hZ9
    obtain ⟨u2_0, hZ9⟩ := hZ9
    obtain ⟨u2_1, hZ9⟩ := hZ9
    obtain ⟨u3_0, hZ9⟩ := hZ9
    obtain ⟨u6_0, hZ9⟩ := hZ9
    obtain ⟨u6_1, hZ9⟩ := hZ9
    obtain ⟨u7_0, hZ9⟩ := hZ9
    obtain ⟨u8_0, hZ9⟩ := hZ9
    obtain ⟨u8_1, hZ9⟩ := hZ9
    obtain ⟨u9_0, hZ9⟩ := hZ9
    obtain ⟨u10_0, hZ9⟩ := hZ9
    obtain ⟨u10_1, hZ9⟩ := hZ9
    obtain ⟨u11_0, hZ9⟩ := hZ9
    obtain ⟨u12_0, hZ9⟩ := hZ9
    obtain ⟨u12_1, hZ9⟩ := hZ9
    obtain ⟨u13_0, hZ9⟩ := hZ9
    obtain ⟨u14_0, hZ9⟩ := hZ9
    obtain ⟨u14_1, hZ9⟩ := hZ9
    obtain ⟨u14_2, hZ9⟩ := hZ9
    obtain ⟨u15_0, hZ9⟩ := hZ9
    obtain ⟨u15_1, hZ9⟩ := hZ9
    obtain ⟨u15_2, hZ9⟩ := hZ9
    obtain ⟨hU0, hZ9⟩ := hZ9
    obtain ⟨hU1, hZ9⟩ := hZ9
    obtain ⟨hU2, hZ9⟩ := hZ9
    obtain ⟨hU3, hZ9⟩ := hZ9
    obtain ⟨hU4, hZ9⟩ := hZ9
    obtain ⟨hU5, hZ9⟩ := hZ9
    obtain ⟨hU6, hZ9⟩ := hZ9
    obtain ⟨hU7, hZ9⟩ := hZ9
    obtain ⟨hU8, hZ9⟩ := hZ9
    obtain ⟨hU9, hZ9⟩ := hZ9
    obtain ⟨hU10, hZ9⟩ := hZ9
    obtain ⟨hU11, hZ9⟩ := hZ9
    obtain ⟨hU12, hZ9⟩ := hZ9
    obtain ⟨hU13, hR⟩ := hZ9
    refine ⟨hI2, ⟨fun i hi => ?_, fun i hi => ?_, ?_⟩, fun i hi => hun i (by simp only [List.mem_cons, List.not_mem_nil, or_false, not_or]; omega)⟩
    · exact iW_fr (hC.1 i hi) (hun _ (by simp only [List.mem_cons, List.not_mem_nil, or_false, not_or]; omega)) (hun _ (by simp only [List.mem_cons, List.not_mem_nil, or_false, not_or]; omega))
    · exact iD_fr (hC.2.1 i hi) (hun _ (by simp only [List.mem_cons, List.not_mem_nil, or_false, not_or]; omega)) (hun _ (by simp only [List.mem_cons, List.not_mem_nil, or_false, not_or]; omega)) (hun _ (by simp only [List.mem_cons, List.not_mem_nil, or_false, not_or]; omega))
    · exact iO_fr hC.2.2 (hun _ (by simp only [List.mem_cons, List.not_mem_nil, or_false, not_or]; omega)) (hun _ (by simp only [List.mem_cons, List.not_mem_nil, or_false, not_or]; omega)) (hun _ (by simp only [List.mem_cons, List.not_mem_nil, or_false, not_or]; omega))
  · rintro E u hZ9
    obtain ⟨c, hZ9⟩ := hZ9
    obtain ⟨hE, hZ9⟩ := hZ9
    obtain ⟨hc, hZ9⟩ := hZ9
    obtain ⟨hI2, hZ9⟩ := hZ9
    obtain ⟨hun, hZ9⟩ := hZ9
    obtain ⟨u0_0, hZ9⟩ := hZ9
    obtain ⟨u0_1, hZ9⟩ := hZ9
    obtain ⟨u1_0, hZ9⟩ := hZ9
    obtain ⟨u2_0, hZ9⟩ := hZ9
    obtain ⟨u2_1, hZ9⟩ := hZ9
    obtain ⟨u3_0, hZ9⟩ := hZ9
    obtain ⟨u6_0, hZ9⟩ := hZ9
    obtain ⟨u6_1, hZ9⟩ := hZ9
    obtain ⟨u7_0, hZ9⟩ := hZ9
    obtain ⟨u8_0, hZ9⟩ := hZ9
    obtain ⟨u8_1, hZ9⟩ := hZ9
    obtain ⟨u9_0, hZ9⟩ := hZ9
    obtain ⟨u10_0, hZ9⟩ := hZ9
    obtain ⟨u10_1, hZ9⟩ := hZ9
    obtain ⟨u11_0, hZ9⟩ := hZ9
    obtain ⟨u12_0, hZ9⟩ := hZ9
    obtain ⟨u12_1, hZ9⟩ := hZ9
    obtain ⟨u13_0, hZ9⟩ := hZ9
    obtain ⟨u14_0, hZ9⟩ := hZ9
    obtain ⟨u14_1, hZ9⟩ := hZ9
    obtain ⟨u14_2, hZ9⟩ := hZ9
    obtain ⟨u15_0, hZ9⟩ := hZ9
    obtain ⟨u15_1, hZ9⟩ := hZ9
    obtain ⟨u15_2, hZ9⟩ := hZ9
    obtain ⟨hU0, hZ9⟩ := hZ9
    obtain ⟨hU1, hZ9⟩ := hZ9
    obtain ⟨hU2, hZ9⟩ := hZ9
    obtain ⟨hU3, hZ9⟩ := hZ9
    obtain ⟨hU4, hZ9⟩ := hZ9
    obtain ⟨hU5, hZ9⟩ := hZ9
    obtain ⟨hU6, hZ9⟩ := hZ9
    obtain ⟨hU7, hZ9⟩ := hZ9
    obtain ⟨hU8, hZ9⟩ := hZ9
    obtain ⟨hU9, hZ9⟩ := hZ9
    obtain ⟨hU10, hZ9⟩ := hZ9
    obtain ⟨hU11, hZ9⟩ := hZ9
    obtain ⟨hU12, hZ9⟩ := hZ9
    obtain ⟨hU13, hF⟩ := hZ9
    have hk := K_NH_told (x2 := x2) (x3 := x3) (x4 := x4) (t0_0 := t0_0) (t0_1 := t0_1) (t1_0 := t1_0) (t2_0 := t2_0) (t2_1 := t2_1) (t3_0 := t3_0) (t4_0 := t4_0) (t5_0 := t5_0) (t6_0 := t6_0) (t6_1 := t6_1) (t7_0 := t7_0) (t8_0 := t8_0) (t8_1 := t8_1) (t9_0 := t9_0) (t10_0 := t10_0) (t10_1 := t10_1) (t11_0 := t11_0) (t12_0 := t12_0) (t12_1 := t12_1) (t13_0 := t13_0) (t14_0 := t14_0) (t14_1 := t14_1) (t14_2 := t14_2) (t15_0 := t15_0) (t15_1 := t15_1) (t15_2 := t15_2) (t16_0 := t16_0) (t16_1 := t16_1) (t17_0 := t17_0) (t18_0 := t18_0) (t18_1 := t18_1) (t19_0 := t19_0) (t19_1 := t19_1) (t20_0 := t20_0)
    rw [← hF] at hk
    replace hk : kC12 c := hk
    refine ⟨⟨c, hE, hk.resolve_left hc⟩, hI2, ⟨fun i hi => ?_, fun i hi => ?_, ?_⟩, fun i hi => hun i (by simp only [List.mem_cons, List.not_mem_nil, or_false, not_or]; omega)⟩
    · exact iW_fr (hC.1 i hi) (hun _ (by simp only [List.mem_cons, List.not_mem_nil, or_false, not_or]; omega)) (hun _ (by simp only [List.mem_cons, List.not_mem_nil, or_false, not_or]; omega))
    · exact iD_fr (hC.2.1 i hi) (hun _ (by simp only [List.mem_cons, List.not_mem_nil, or_false, not_or]; omega)) (hun _ (by simp only [List.mem_cons, List.not_mem_nil, or_false, not_or]; omega)) (hun _ (by simp only [List.mem_cons, List.not_mem_nil, or_false, not_or]; omega))
    · exact iO_fr hC.2.2 (hun _ (by simp only [List.mem_cons, List.not_mem_nil, or_false, not_or]; omega)) (hun _ (by simp only [List.mem_cons, List.not_mem_nil, or_false, not_or]; omega)) (hun _ (by simp only [List.mem_cons, List.not_mem_nil, or_false, not_or]; omega))
set_option maxRecDepth 100000 in
theorem CV_figures (l : Launch) (D : va_G) (g : Nat → ClassId) (q : Nat → Nat) (ws : va_W) (x2 : Int32) (x3 : Int32) (x4 : Int32) (x5 : Int32) (x6 : Int32) (hzx4 : 0 ≤ x4.toInt ∧ x4.toInt ≤ 1) (hlt : l.stackTraces = false) (hI : q_I (nsh g q) q ws) (hC : iC g q ws) : ∀ sz, q_Mx l y_NH_figures prog_1_method_18_code 9 (some .int) 8 3 18 D g [.ref (q 0), .int x2, .int x3, .int x4, .int x5, .int x6] ws sz (va_Qi (fun _ u => iP g q ws u) (q_B D g (va_A ws sz)) (va_A ws sz)) (fun E u => (∃ c : Int32, E = qE c ∧ (c = 1 ∨ c = 2)) ∧ iP g q ws u) := by
  intro sz
  obtain ⟨t0_0, hT0, bT0⟩ := n_shO hI (n_h3 g q)
  obtain ⟨t1_0, hT1⟩ := n_al hI (n_s4 g q)
  obtain ⟨t2_0, t2_1, hT2, bT2⟩ := q_bigO hI (n_b10 g q)
  obtain ⟨t3_0, hT3, bT3⟩ := n_ai hI (n_s11 g q)
  obtain ⟨t4_0, t4_1, hT4, bT4⟩ := n_o36 hI
  obtain ⟨t5_0, hT5, bT5⟩ := n_ai hI (n_s37 g q)
  obtain ⟨t6_0, hT6⟩ := n_al hI (n_s7 g q)
  obtain ⟨t7_0, hT7⟩ := n_al hI (n_s8 g q)
  obtain ⟨t8_0, t8_1, t8_2, hT8⟩ := n_flO hI (n_f34 g q)
  obtain ⟨t9_0, t9_1, t9_2, hT9⟩ := n_flO hI (n_f35 g q)
  have hq := T_figures (x2 := x2) (x3 := x3) (x4 := x4) (x5 := x5) (x6 := x6) (t0_0 := t0_0) (t1_0 := t1_0) (t2_0 := t2_0) (t2_1 := t2_1) (t3_0 := t3_0) (t4_0 := t4_0) (t4_1 := t4_1) (t5_0 := t5_0) (t6_0 := t6_0) (t7_0 := t7_0) (t8_0 := t8_0) (t8_1 := t8_1) (t8_2 := t8_2) (t9_0 := t9_0) (t9_1 := t9_1) (t9_2 := t9_2) 
  refine q_MxI (X_NH_figures l D g q ws x2 x3 x4 x5 x6 hlt hI t0_0 hT0 t1_0 hT1 t2_0 t2_1 hT2 t3_0 hT3 t4_0 t4_1 hT4 t5_0 hT5 t6_0 hT6 t7_0 hT7 t8_0 t8_1 t8_2 hT8 t9_0 t9_1 t9_2 hT9 hzx4 ⟨trivial, hq⟩ sz) ?_ ?_
  · rintro r u hZ9
    obtain ⟨hI2, hZ9⟩ := hZ9
    obtain ⟨hun, hZ9⟩ := hZ9
    obtain ⟨u0_0, hZ9⟩ := hZ9
    obtain ⟨u1_0, hZ9⟩ := hZ9
    obtain ⟨u2_0, hZ9⟩ := hZ9
    obtain ⟨u2_1, hZ9⟩ := hZ9
    obtain ⟨u3_0, hZ9⟩ := hZ9
    obtain ⟨u4_0, hZ9⟩ := hZ9
    obtain ⟨u4_1, hZ9⟩ := hZ9
    obtain ⟨u5_0, hZ9⟩ := hZ9
    obtain ⟨hU0, hZ9⟩ := hZ9
    obtain ⟨hU1, hZ9⟩ := hZ9
    obtain ⟨hU2, hZ9⟩ := hZ9
    obtain ⟨hU3, hZ9⟩ := hZ9
    obtain ⟨hU4, hZ9⟩ := hZ9
    obtain ⟨hU5, hR⟩ := hZ9
    refine ⟨hI2, ⟨fun i hi => ?_, fun i hi => ?_, ?_⟩, fun i hi => hun i (by simp only [List.mem_cons, List.not_mem_nil, or_false, not_or]; omega)⟩
    · exact iW_fr (hC.1 i hi) (hun _ (by simp only [List.mem_cons, List.not_mem_nil, or_false, not_or]; omega)) (hun _ (by simp only [List.mem_cons, List.not_mem_nil, or_false, not_or]; omega))
    · exact iD_fr (hC.2.1 i hi) (hun _ (by simp only [List.mem_cons, List.not_mem_nil, or_false, not_or]; omega)) (hun _ (by simp only [List.mem_cons, List.not_mem_nil, or_false, not_or]; omega)) (hun _ (by simp only [List.mem_cons, List.not_mem_nil, or_false, not_or]; omega))
    · exact iO_fr hC.2.2 (hun _ (by simp only [List.mem_cons, List.not_mem_nil, or_false, not_or]; omega)) (hun _ (by simp only [List.mem_cons, List.not_mem_nil, or_false, not_or]; omega)) (hun _ (by simp only [List.mem_cons, List.not_mem_nil, or_false, not_or]; omega))
  · rintro E u hZ9
    obtain ⟨c, hZ9⟩ := hZ9
    obtain ⟨hE, hZ9⟩ := hZ9
    obtain ⟨hc, hZ9⟩ := hZ9
    obtain ⟨hI2, hZ9⟩ := hZ9
    obtain ⟨hun, hZ9⟩ := hZ9
    obtain ⟨u0_0, hZ9⟩ := hZ9
    obtain ⟨u1_0, hZ9⟩ := hZ9
    obtain ⟨u2_0, hZ9⟩ := hZ9
    obtain ⟨u2_1, hZ9⟩ := hZ9
    obtain ⟨u3_0, hZ9⟩ := hZ9
    obtain ⟨u4_0, hZ9⟩ := hZ9
    obtain ⟨u4_1, hZ9⟩ := hZ9
    obtain ⟨u5_0, hZ9⟩ := hZ9
    obtain ⟨hU0, hZ9⟩ := hZ9
    obtain ⟨hU1, hZ9⟩ := hZ9
    obtain ⟨hU2, hZ9⟩ := hZ9
    obtain ⟨hU3, hZ9⟩ := hZ9
    obtain ⟨hU4, hZ9⟩ := hZ9
    obtain ⟨hU5, hF⟩ := hZ9
    have hk := K_NH_figures (x2 := x2) (x3 := x3) (x4 := x4) (x5 := x5) (x6 := x6) (t0_0 := t0_0) (t1_0 := t1_0) (t2_0 := t2_0) (t2_1 := t2_1) (t3_0 := t3_0) (t4_0 := t4_0) (t4_1 := t4_1) (t5_0 := t5_0) (t6_0 := t6_0) (t7_0 := t7_0) (t8_0 := t8_0) (t8_1 := t8_1) (t8_2 := t8_2) (t9_0 := t9_0) (t9_1 := t9_1) (t9_2 := t9_2)
    rw [← hF] at hk
    replace hk : kC12 c := hk
    refine ⟨⟨c, hE, hk.resolve_left hc⟩, hI2, ⟨fun i hi => ?_, fun i hi => ?_, ?_⟩, fun i hi => hun i (by simp only [List.mem_cons, List.not_mem_nil, or_false, not_or]; omega)⟩
    · exact iW_fr (hC.1 i hi) (hun _ (by simp only [List.mem_cons, List.not_mem_nil, or_false, not_or]; omega)) (hun _ (by simp only [List.mem_cons, List.not_mem_nil, or_false, not_or]; omega))
    · exact iD_fr (hC.2.1 i hi) (hun _ (by simp only [List.mem_cons, List.not_mem_nil, or_false, not_or]; omega)) (hun _ (by simp only [List.mem_cons, List.not_mem_nil, or_false, not_or]; omega)) (hun _ (by simp only [List.mem_cons, List.not_mem_nil, or_false, not_or]; omega))
    · exact iO_fr hC.2.2 (hun _ (by simp only [List.mem_cons, List.not_mem_nil, or_false, not_or]; omega)) (hun _ (by simp only [List.mem_cons, List.not_mem_nil, or_false, not_or]; omega)) (hun _ (by simp only [List.mem_cons, List.not_mem_nil, or_false, not_or]; omega))
set_option maxRecDepth 100000 in
theorem CV_format (l : Launch) (D : va_G) (g : Nat → ClassId) (q : Nat → Nat) (ws : va_W)  (hlt : l.stackTraces = false) (hI : q_I (nsh g q) q ws) (hC : iC g q ws) : ∀ sz, q_Mx l y_NH_format prog_1_method_20_code 2 (some .int) 10 1 6 D g [.ref (q 0)] ws sz (va_Qi (fun _ u => iP g q ws u) (q_B D g (va_A ws sz)) (va_A ws sz)) (fun E u => (∃ c : Int32, E = qE c ∧ (c = 3)) ∧ iP g q ws u) := by
  intro sz
  obtain ⟨t0_0, hT0, bT0⟩ := n_shO hI (n_h1 g q)
  obtain ⟨t1_0, hT1⟩ := n_al hI (n_s2 g q)
  obtain ⟨t2_0, hT2, bT2⟩ := n_shO hI (n_h3 g q)
  obtain ⟨t3_0, hT3⟩ := n_al hI (n_s4 g q)
  obtain ⟨t4_0, hZ9⟩ := n_o40 hI
  obtain ⟨t4_1, hZ9⟩ := hZ9
  obtain ⟨t4_2, hZ9⟩ := hZ9
  obtain ⟨t4_3, hZ9⟩ := hZ9
  obtain ⟨hT4, bT4⟩ := hZ9
  obtain ⟨t5_0, hT5, bT5⟩ := n_ai hI (n_s41 g q)
  obtain ⟨t6_0, hT6⟩ := n_al hI (n_s42 g q)
  obtain ⟨t7_0, hT7, bT7⟩ := n_ai hI (n_s43 g q)
  obtain ⟨t8_0, t8_1, hT8, bT8⟩ := n_o36 hI
  obtain ⟨t9_0, hT9, bT9⟩ := n_ai hI (n_s37 g q)
  obtain ⟨t10_0, hT10, bT10⟩ := n_shO hI (n_h45 g q)
  obtain ⟨t11_0, hT11⟩ := n_al hI (n_s46 g q)
  obtain ⟨t12_0, hZ9⟩ := n_o47 hI
  obtain ⟨t12_1, hZ9⟩ := hZ9
  obtain ⟨t12_2, hZ9⟩ := hZ9
  obtain ⟨t12_3, hZ9⟩ := hZ9
  obtain ⟨t12_4, hZ9⟩ := hZ9
  obtain ⟨t12_5, hZ9⟩ := hZ9
  obtain ⟨t12_6, hZ9⟩ := hZ9
  obtain ⟨hT12, bT12⟩ := hZ9
  obtain ⟨t13_0, hT13, bT13⟩ := n_shO hI (n_t g q (j := 0) (by decide))
  obtain ⟨t14_0, hT14⟩ := n_al hI (n_s49 g q)
  obtain ⟨t15_0, hT15, bT15⟩ := n_shO hI (n_t g q (j := 1) (by decide))
  obtain ⟨t16_0, hT16⟩ := n_al hI (n_s51 g q)
  obtain ⟨t17_0, hT17, bT17⟩ := n_shO hI (n_t g q (j := 2) (by decide))
  obtain ⟨t18_0, hT18⟩ := n_al hI (n_s53 g q)
  obtain ⟨t19_0, hT19, bT19⟩ := n_shO hI (n_t g q (j := 3) (by decide))
  obtain ⟨t20_0, hT20⟩ := n_al hI (n_s55 g q)
  obtain ⟨t21_0, hT21, bT21⟩ := n_shO hI (n_t g q (j := 4) (by decide))
  obtain ⟨t22_0, hT22⟩ := n_al hI (n_s57 g q)
  obtain ⟨t23_0, hT23, bT23⟩ := n_shO hI (n_t g q (j := 5) (by decide))
  obtain ⟨t24_0, hT24⟩ := n_al hI (n_s59 g q)
  obtain ⟨t25_0, hT25, bT25⟩ := n_shO hI (n_t g q (j := 6) (by decide))
  obtain ⟨t26_0, hT26⟩ := n_al hI (n_s61 g q)
  obtain ⟨t27_0, hT27, bT27⟩ := n_shO hI (n_t g q (j := 7) (by decide))
  obtain ⟨t28_0, hT28⟩ := n_al hI (n_s63 g q)
  obtain ⟨t29_0, hT29, bT29⟩ := n_shO hI (n_t g q (j := 8) (by decide))
  obtain ⟨t30_0, hT30⟩ := n_al hI (n_s65 g q)
  have hq := T_format (t0_0 := t0_0) (t1_0 := t1_0) (t2_0 := t2_0) (t3_0 := t3_0) (t4_0 := t4_0) (t4_1 := t4_1) (t4_2 := t4_2) (t4_3 := t4_3) (t5_0 := t5_0) (t6_0 := t6_0) (t7_0 := t7_0) (t8_0 := t8_0) (t8_1 := t8_1) (t9_0 := t9_0) (t10_0 := t10_0) (t11_0 := t11_0) (t12_0 := t12_0) (t12_1 := t12_1) (t12_2 := t12_2) (t12_3 := t12_3) (t12_4 := t12_4) (t12_5 := t12_5) (t12_6 := t12_6) (t13_0 := t13_0) (t14_0 := t14_0) (t15_0 := t15_0) (t16_0 := t16_0) (t17_0 := t17_0) (t18_0 := t18_0) (t19_0 := t19_0) (t20_0 := t20_0) (t21_0 := t21_0) (t22_0 := t22_0) (t23_0 := t23_0) (t24_0 := t24_0) (t25_0 := t25_0) (t26_0 := t26_0) (t27_0 := t27_0) (t28_0 := t28_0) (t29_0 := t29_0) (t30_0 := t30_0) (by first | exact bT4 | exact bT4.1 | exact bT4.2 | exact bT4.2.1 | exact bT4.2.2 | exact bT4.1.1)
  refine q_MxI (X_NH_format l D g q ws hlt hI t0_0 hT0 t1_0 hT1 t2_0 hT2 t3_0 hT3 t4_0 t4_1 t4_2 t4_3 hT4 t5_0 hT5 t6_0 hT6 t7_0 hT7 t8_0 t8_1 hT8 t9_0 hT9 t10_0 hT10 t11_0 hT11 t12_0 t12_1 t12_2 t12_3 t12_4 t12_5 t12_6 hT12 t13_0 hT13 t14_0 hT14 t15_0 hT15 t16_0 hT16 t17_0 hT17 t18_0 hT18 t19_0 hT19 t20_0 hT20 t21_0 hT21 t22_0 hT22 t23_0 hT23 t24_0 hT24 t25_0 hT25 t26_0 hT26 t27_0 hT27 t28_0 hT28 t29_0 hT29 t30_0 hT30 ⟨trivial, hq⟩ sz) ?_ ?_
  · rintro r u hZ9
    obtain ⟨hI2, hZ9⟩ := hZ9
    obtain ⟨hun, hZ9⟩ := hZ9
    obtain ⟨u0_0, hZ9⟩ := hZ9
    obtain ⟨u2_0, hZ9⟩ := hZ9
    obtain ⟨u3_0, hZ9⟩ := hZ9
    obtain ⟨u4_0, hZ9⟩ := hZ9
    obtain ⟨u4_1, hZ9⟩ := hZ9
    obtain ⟨u4_2, hZ9⟩ := hZ9
    obtain ⟨u4_3, hZ9⟩ := hZ9
    obtain ⟨u8_0, hZ9⟩ := hZ9
    obtain ⟨u8_1, hZ9⟩ := hZ9
    obtain ⟨u9_0, hZ9⟩ := hZ9
    obtain ⟨u10_0, hZ9⟩ := hZ9
    obtain ⟨u11_0, hZ9⟩ := hZ9
    obtain ⟨u12_0, hZ9⟩ := hZ9
    obtain ⟨u12_1, hZ9⟩ := hZ9
    obtain ⟨u12_2, hZ9⟩ := hZ9
    obtain ⟨u12_3, hZ9⟩ := hZ9
    obtain ⟨u12_4, hZ9⟩ := hZ9
    obtain ⟨u12_5, hZ9⟩ := hZ9
    obtain ⟨u12_6, hZ9⟩ := hZ9
    obtain ⟨hU0, hZ9⟩ := hZ9
    obtain ⟨hU1, hZ9⟩ := hZ9
    obtain ⟨hU2, hZ9⟩ := hZ9
    obtain ⟨hU3, hZ9⟩ := hZ9
    obtain ⟨hU4, hZ9⟩ := hZ9
    obtain ⟨hU5, hZ9⟩ := hZ9
    obtain ⟨hU6, hZ9⟩ := hZ9
    obtain ⟨hU7, hZ9⟩ := hZ9
    obtain ⟨hU8, hR⟩ := hZ9
    refine ⟨hI2, ⟨fun i hi => ?_, fun i hi => ?_, ?_⟩, fun i hi => hun i (by simp only [List.mem_cons, List.not_mem_nil, or_false, not_or]; omega)⟩
    · exact iW_fr (hC.1 i hi) (hun _ (by simp only [List.mem_cons, List.not_mem_nil, or_false, not_or]; omega)) (hun _ (by simp only [List.mem_cons, List.not_mem_nil, or_false, not_or]; omega))
    · exact iD_fr (hC.2.1 i hi) (hun _ (by simp only [List.mem_cons, List.not_mem_nil, or_false, not_or]; omega)) (hun _ (by simp only [List.mem_cons, List.not_mem_nil, or_false, not_or]; omega)) (hun _ (by simp only [List.mem_cons, List.not_mem_nil, or_false, not_or]; omega))
    · exact iO_fr hC.2.2 (hun _ (by simp only [List.mem_cons, List.not_mem_nil, or_false, not_or]; omega)) (hun _ (by simp only [List.mem_cons, List.not_mem_nil, or_false, not_or]; omega)) (hun _ (by simp only [List.mem_cons, List.not_mem_nil, or_false, not_or]; omega))
  · rintro E u hZ9
    obtain ⟨c, hZ9⟩ := hZ9
    obtain ⟨hE, hZ9⟩ := hZ9
    obtain ⟨hc, hZ9⟩ := hZ9
    obtain ⟨hI2, hZ9⟩ := hZ9
    obtain ⟨hun, hZ9⟩ := hZ9
    obtain ⟨u0_0, hZ9⟩ := hZ9
    obtain ⟨u2_0, hZ9⟩ := hZ9
    obtain ⟨u3_0, hZ9⟩ := hZ9
    obtain ⟨u4_0, hZ9⟩ := hZ9
    obtain ⟨u4_1, hZ9⟩ := hZ9
    obtain ⟨u4_2, hZ9⟩ := hZ9
    obtain ⟨u4_3, hZ9⟩ := hZ9
    obtain ⟨u8_0, hZ9⟩ := hZ9
    obtain ⟨u8_1, hZ9⟩ := hZ9
    obtain ⟨u9_0, hZ9⟩ := hZ9
    obtain ⟨u10_0, hZ9⟩ := hZ9
    obtain ⟨u11_0, hZ9⟩ := hZ9
    obtain ⟨u12_0, hZ9⟩ := hZ9
    obtain ⟨u12_1, hZ9⟩ := hZ9
    obtain ⟨u12_2, hZ9⟩ := hZ9
    obtain ⟨u12_3, hZ9⟩ := hZ9
    obtain ⟨u12_4, hZ9⟩ := hZ9
    obtain ⟨u12_5, hZ9⟩ := hZ9
    obtain ⟨u12_6, hZ9⟩ := hZ9
    obtain ⟨hU0, hZ9⟩ := hZ9
    obtain ⟨hU1, hZ9⟩ := hZ9
    obtain ⟨hU2, hZ9⟩ := hZ9
    obtain ⟨hU3, hZ9⟩ := hZ9
    obtain ⟨hU4, hZ9⟩ := hZ9
    obtain ⟨hU5, hZ9⟩ := hZ9
    obtain ⟨hU6, hZ9⟩ := hZ9
    obtain ⟨hU7, hZ9⟩ := hZ9
    obtain ⟨hU8, hF⟩ := hZ9
    have hk := K_NH_format (t0_0 := t0_0) (t1_0 := t1_0) (t2_0 := t2_0) (t3_0 := t3_0) (t4_0 := t4_0) (t4_1 := t4_1) (t4_2 := t4_2) (t4_3 := t4_3) (t5_0 := t5_0) (t6_0 := t6_0) (t7_0 := t7_0) (t8_0 := t8_0) (t8_1 := t8_1) (t9_0 := t9_0) (t10_0 := t10_0) (t11_0 := t11_0) (t12_0 := t12_0) (t12_1 := t12_1) (t12_2 := t12_2) (t12_3 := t12_3) (t12_4 := t12_4) (t12_5 := t12_5) (t12_6 := t12_6) (t13_0 := t13_0) (t14_0 := t14_0) (t15_0 := t15_0) (t16_0 := t16_0) (t17_0 := t17_0) (t18_0 := t18_0) (t19_0 := t19_0) (t20_0 := t20_0) (t21_0 := t21_0) (t22_0 := t22_0) (t23_0 := t23_0) (t24_0 := t24_0) (t25_0 := t25_0) (t26_0 := t26_0) (t27_0 := t27_0) (t28_0 := t28_0) (t29_0 := t29_0) (t30_0 := t30_0)
    rw [← hF] at hk
    replace hk : kC3 c := hk
    refine ⟨⟨c, hE, hk.resolve_left hc⟩, hI2, ⟨fun i hi => ?_, fun i hi => ?_, ?_⟩, fun i hi => hun i (by simp only [List.mem_cons, List.not_mem_nil, or_false, not_or]; omega)⟩
    · exact iW_fr (hC.1 i hi) (hun _ (by simp only [List.mem_cons, List.not_mem_nil, or_false, not_or]; omega)) (hun _ (by simp only [List.mem_cons, List.not_mem_nil, or_false, not_or]; omega))
    · exact iD_fr (hC.2.1 i hi) (hun _ (by simp only [List.mem_cons, List.not_mem_nil, or_false, not_or]; omega)) (hun _ (by simp only [List.mem_cons, List.not_mem_nil, or_false, not_or]; omega)) (hun _ (by simp only [List.mem_cons, List.not_mem_nil, or_false, not_or]; omega))
    · exact iO_fr hC.2.2 (hun _ (by simp only [List.mem_cons, List.not_mem_nil, or_false, not_or]; omega)) (hun _ (by simp only [List.mem_cons, List.not_mem_nil, or_false, not_or]; omega)) (hun _ (by simp only [List.mem_cons, List.not_mem_nil, or_false, not_or]; omega))

set_option maxRecDepth 100000 in
theorem CV_decimalBy (l : Launch) (D : va_G) (g : Nat → ClassId) (q : Nat → Nat) (ws : va_W) (x2 : Int32) (x3 : Int32) (x4 : Int32) (x5 : Int32) (i3 : Nat) (hi3 : i3 < 10) (i5 : Nat) (hi5 : i5 < 10) (e3 : x3.toNatClampNeg < 10 → i3 = x3.toNatClampNeg) (e5 : x5.toNatClampNeg < 10 → i5 = x5.toNatClampNeg) (hlt : l.stackTraces = false) (hI : q_I (nsh g q) q ws) (hC : iC g q ws) : ∀ sz, q_Mx l y_NH_decimalBy prog_1_method_12_code 5 none 9 4 24 D g [.ref (q 0), .int x2, .int x3, .int x4, .int x5] ws sz (va_Qv (fun u => iP g q ws u) (q_B D g (va_A ws sz)) (va_A ws sz)) (fun E u => (∃ c : Int32, E = qE c ∧ (c = 1 ∨ c = 2)) ∧ iP g q ws u) := by
  intro sz
  obtain ⟨t0_0, t0_1, hT0, bT0⟩ := n_o30 hI
  obtain ⟨t1_0, t1_1, hT1, bT1⟩ := q_bigO hI (n_b10 g q)
  obtain ⟨t2_0, hT2, bT2⟩ := n_ai hI (n_s11 g q)
  obtain ⟨t3_0, t3_1, hT3, bT3⟩ := q_bigO hI (n_b14 g q)
  obtain ⟨t4_0, hT4, bT4⟩ := n_ai hI (n_s15 g q)
  obtain ⟨t5_0, t5_1, hT5, bT5⟩ := q_bigO hI (n_b18 g q)
  obtain ⟨t6_0, hT6, bT6⟩ := n_ai hI (n_s19 g q)
  obtain ⟨t7_0, t7_1, hT7, bT7⟩ := q_bigO hI (n_b20 g q)
  obtain ⟨t8_0, hT8, bT8⟩ := n_ai hI (n_s21 g q)
  obtain ⟨t9_0, hZ9⟩ := hC.2.1 i3 hi3
  obtain ⟨t9_1, hZ9⟩ := hZ9
  obtain ⟨t10_0, hZ9⟩ := hZ9
  obtain ⟨t10_1, hZ9⟩ := hZ9
  obtain ⟨t11_0, hZ9⟩ := hZ9
  obtain ⟨hT9, hZ9⟩ := hZ9
  obtain ⟨hT10, hZ9⟩ := hZ9
  obtain ⟨hT11, hZ9⟩ := hZ9
  obtain ⟨vd3, hbd3⟩ := hZ9
  obtain ⟨t12_0, hZ9⟩ := hC.2.1 i5 hi5
  obtain ⟨t12_1, hZ9⟩ := hZ9
  obtain ⟨t13_0, hZ9⟩ := hZ9
  obtain ⟨t13_1, hZ9⟩ := hZ9
  obtain ⟨t14_0, hZ9⟩ := hZ9
  obtain ⟨hT12, hZ9⟩ := hZ9
  obtain ⟨hT13, hZ9⟩ := hZ9
  obtain ⟨hT14, hZ9⟩ := hZ9
  obtain ⟨vd5, hbd5⟩ := hZ9
  have hq := T_decimalBy (x2 := x2) (x3 := x3) (x4 := x4) (x5 := x5) (t0_0 := t0_0) (t0_1 := t0_1) (t1_0 := t1_0) (t1_1 := t1_1) (t2_0 := t2_0) (t3_0 := t3_0) (t3_1 := t3_1) (t4_0 := t4_0) (t5_0 := t5_0) (t5_1 := t5_1) (t6_0 := t6_0) (t7_0 := t7_0) (t7_1 := t7_1) (t8_0 := t8_0) (t9_0 := t9_0) (t9_1 := t9_1) (t10_0 := t10_0) (t10_1 := t10_1) (t11_0 := t11_0) (t12_0 := t12_0) (t12_1 := t12_1) (t13_0 := t13_0) (t13_1 := t13_1) (t14_0 := t14_0) ⟨_, hbd3⟩ ⟨_, hbd5⟩
  refine q_MxV (X_NH_decimalBy l D g q ws x2 x3 x4 x5 (68 + 5 * i3) (n_d g q hi3) (by omega) (fun h => by have z := e3 h; omega) (68 + 5 * i5) (n_d g q hi5) (by omega) (fun h => by have z := e5 h; omega) hlt hI t0_0 t0_1 hT0 t1_0 t1_1 hT1 t2_0 hT2 t3_0 t3_1 hT3 t4_0 hT4 t5_0 t5_1 hT5 t6_0 hT6 t7_0 t7_1 hT7 t8_0 hT8 t9_0 t9_1 hT9 t10_0 t10_1 hT10 t11_0 hT11 t12_0 t12_1 hT12 t13_0 t13_1 hT13 t14_0 hT14 ⟨trivial, hq.1⟩ sz) ?_ ?_
  · rintro u hZ9
    obtain ⟨hI2, hZ9⟩ := hZ9
    obtain ⟨hun, hZ9⟩ := hZ9
    obtain ⟨u0_0, hZ9⟩ := hZ9
    obtain ⟨u0_1, hZ9⟩ := hZ9
    obtain ⟨u1_0, hZ9⟩ := hZ9
    obtain ⟨u1_1, hZ9⟩ := hZ9
    obtain ⟨u2_0, hZ9⟩ := hZ9
    obtain ⟨u3_0, hZ9⟩ := hZ9
    obtain ⟨u3_1, hZ9⟩ := hZ9
    obtain ⟨u4_0, hZ9⟩ := hZ9
    obtain ⟨u5_0, hZ9⟩ := hZ9
    obtain ⟨u5_1, hZ9⟩ := hZ9
    obtain ⟨u6_0, hZ9⟩ := hZ9
    obtain ⟨u7_0, hZ9⟩ := hZ9
    obtain ⟨u7_1, hZ9⟩ := hZ9
    obtain ⟨u8_0, hZ9⟩ := hZ9
    obtain ⟨u12_0, hZ9⟩ := hZ9
    obtain ⟨u12_1, hZ9⟩ := hZ9
    obtain ⟨u13_0, hZ9⟩ := hZ9
    obtain ⟨u13_1, hZ9⟩ := hZ9
    obtain ⟨u14_0, hZ9⟩ := hZ9
    obtain ⟨hU0, hZ9⟩ := hZ9
    obtain ⟨hU1, hZ9⟩ := hZ9
    obtain ⟨hU2, hZ9⟩ := hZ9
    obtain ⟨hU3, hZ9⟩ := hZ9
    obtain ⟨hU4, hZ9⟩ := hZ9
    obtain ⟨hU5, hZ9⟩ := hZ9
    obtain ⟨hU6, hZ9⟩ := hZ9
    obtain ⟨hU7, hZ9⟩ := hZ9
    obtain ⟨hU8, hZ9⟩ := hZ9
    obtain ⟨hU9, hZ9⟩ := hZ9
    obtain ⟨hU10, hZ9⟩ := hZ9
    obtain ⟨hU11, hR⟩ := hZ9
    have hF := hR.2.2.2.2.2.2.2.2.2.2.2.2.2.2.2.2.2.2.2.2.2.2.2.2.2.2.2.2.2.2.2.2.2.2.2.2.2.2.2.2.2.2.2.2.2.2.2.2.2.2.2.2.2.2.2.2.2.2.2.2.2.2.2.2.2.2.2
    have hp := hq.2
    rw [← hF] at hp
    refine ⟨hI2, ⟨fun i hi => ?_, fun i hi => ?_, ?_⟩, fun i hi => hun i (by simp only [List.mem_cons, List.not_mem_nil, or_false, not_or]; omega)⟩
    · exact iW_fr (hC.1 i hi) (hun _ (by simp only [List.mem_cons, List.not_mem_nil, or_false, not_or]; omega)) (hun _ (by simp only [List.mem_cons, List.not_mem_nil, or_false, not_or]; omega))
    · by_cases hd5 : i = i5
      · rw [hd5]; refine ⟨_, _, _, _, _, hU9, hU10, hU11, ?_⟩; first | exact hp
      · exact iD_fr (hC.2.1 i hi) (hun _ (by simp only [List.mem_cons, List.not_mem_nil, or_false, not_or]; omega)) (hun _ (by simp only [List.mem_cons, List.not_mem_nil, or_false, not_or]; omega)) (hun _ (by simp only [List.mem_cons, List.not_mem_nil, or_false, not_or]; omega))
    · exact iO_fr hC.2.2 (hun _ (by simp only [List.mem_cons, List.not_mem_nil, or_false, not_or]; omega)) (hun _ (by simp only [List.mem_cons, List.not_mem_nil, or_false, not_or]; omega)) (hun _ (by simp only [List.mem_cons, List.not_mem_nil, or_false, not_or]; omega))
  · rintro E u hZ9
    obtain ⟨c, hZ9⟩ := hZ9
    obtain ⟨hE, hZ9⟩ := hZ9
    obtain ⟨hc, hZ9⟩ := hZ9
    obtain ⟨hI2, hZ9⟩ := hZ9
    obtain ⟨hun, hZ9⟩ := hZ9
    obtain ⟨u0_0, hZ9⟩ := hZ9
    obtain ⟨u0_1, hZ9⟩ := hZ9
    obtain ⟨u1_0, hZ9⟩ := hZ9
    obtain ⟨u1_1, hZ9⟩ := hZ9
    obtain ⟨u2_0, hZ9⟩ := hZ9
    obtain ⟨u3_0, hZ9⟩ := hZ9
    obtain ⟨u3_1, hZ9⟩ := hZ9
    obtain ⟨u4_0, hZ9⟩ := hZ9
    obtain ⟨u5_0, hZ9⟩ := hZ9
    obtain ⟨u5_1, hZ9⟩ := hZ9
    obtain ⟨u6_0, hZ9⟩ := hZ9
    obtain ⟨u7_0, hZ9⟩ := hZ9
    obtain ⟨u7_1, hZ9⟩ := hZ9
    obtain ⟨u8_0, hZ9⟩ := hZ9
    obtain ⟨u12_0, hZ9⟩ := hZ9
    obtain ⟨u12_1, hZ9⟩ := hZ9
    obtain ⟨u13_0, hZ9⟩ := hZ9
    obtain ⟨u13_1, hZ9⟩ := hZ9
    obtain ⟨u14_0, hZ9⟩ := hZ9
    obtain ⟨hU0, hZ9⟩ := hZ9
    obtain ⟨hU1, hZ9⟩ := hZ9
    obtain ⟨hU2, hZ9⟩ := hZ9
    obtain ⟨hU3, hZ9⟩ := hZ9
    obtain ⟨hU4, hZ9⟩ := hZ9
    obtain ⟨hU5, hZ9⟩ := hZ9
    obtain ⟨hU6, hZ9⟩ := hZ9
    obtain ⟨hU7, hZ9⟩ := hZ9
    obtain ⟨hU8, hZ9⟩ := hZ9
    obtain ⟨hU9, hZ9⟩ := hZ9
    obtain ⟨hU10, hZ9⟩ := hZ9
    obtain ⟨hU11, hF⟩ := hZ9
    have hp := hq.2
    rw [← hF] at hp
    have hk := K_NH_decimalBy (x2 := x2) (x3 := x3) (x4 := x4) (x5 := x5) (t0_0 := t0_0) (t0_1 := t0_1) (t1_0 := t1_0) (t1_1 := t1_1) (t2_0 := t2_0) (t3_0 := t3_0) (t3_1 := t3_1) (t4_0 := t4_0) (t5_0 := t5_0) (t5_1 := t5_1) (t6_0 := t6_0) (t7_0 := t7_0) (t7_1 := t7_1) (t8_0 := t8_0) (t9_0 := t9_0) (t9_1 := t9_1) (t10_0 := t10_0) (t10_1 := t10_1) (t11_0 := t11_0) (t12_0 := t12_0) (t12_1 := t12_1) (t13_0 := t13_0) (t13_1 := t13_1) (t14_0 := t14_0)
    rw [← hF] at hk
    replace hk : kC12 c := hk
    refine ⟨⟨c, hE, hk.resolve_left hc⟩, hI2, ⟨fun i hi => ?_, fun i hi => ?_, ?_⟩, fun i hi => hun i (by simp only [List.mem_cons, List.not_mem_nil, or_false, not_or]; omega)⟩
    · exact iW_fr (hC.1 i hi) (hun _ (by simp only [List.mem_cons, List.not_mem_nil, or_false, not_or]; omega)) (hun _ (by simp only [List.mem_cons, List.not_mem_nil, or_false, not_or]; omega))
    · by_cases hd5 : i = i5
      · rw [hd5]; refine ⟨_, _, _, _, _, hU9, hU10, hU11, ?_⟩; first | exact hp
      · exact iD_fr (hC.2.1 i hi) (hun _ (by simp only [List.mem_cons, List.not_mem_nil, or_false, not_or]; omega)) (hun _ (by simp only [List.mem_cons, List.not_mem_nil, or_false, not_or]; omega)) (hun _ (by simp only [List.mem_cons, List.not_mem_nil, or_false, not_or]; omega))
    · exact iO_fr hC.2.2 (hun _ (by simp only [List.mem_cons, List.not_mem_nil, or_false, not_or]; omega)) (hun _ (by simp only [List.mem_cons, List.not_mem_nil, or_false, not_or]; omega)) (hun _ (by simp only [List.mem_cons, List.not_mem_nil, or_false, not_or]; omega))
set_option maxRecDepth 100000 in
theorem CV_wholeBy (l : Launch) (D : va_G) (g : Nat → ClassId) (q : Nat → Nat) (ws : va_W) (x2 : Int32) (x3 : Int32) (x4 : Int32) (x5 : Int32) (i3 : Nat) (hi3 : i3 < 10) (i5 : Nat) (hi5 : i5 < 10) (e3 : x3.toNatClampNeg < 10 → i3 = x3.toNatClampNeg) (e5 : x5.toNatClampNeg < 10 → i5 = x5.toNatClampNeg) (hlt : l.stackTraces = false) (hI : q_I (nsh g q) q ws) (hC : iC g q ws) : ∀ sz, q_Mx l y_NH_wholeBy prog_1_method_9_code 6 none 9 5 30 D g [.ref (q 0), .int x2, .int x3, .int x4, .int x5] ws sz (va_Qv (fun u => iP g q ws u) (q_B D g (va_A ws sz)) (va_A ws sz)) (fun E u => (∃ c : Int32, E = qE c ∧ (c = 1 ∨ c = 2)) ∧ iP g q ws u) := by
  intro sz
  obtain ⟨t0_0, t0_1, hT0, bT0⟩ := q_bigO hI (n_b10 g q)
  obtain ⟨t1_0, hT1, bT1⟩ := n_ai hI (n_s11 g q)
  obtain ⟨t2_0, t2_1, hT2, bT2⟩ := q_bigO hI (n_b12 g q)
  obtain ⟨t3_0, hT3, bT3⟩ := n_ai hI (n_s13 g q)
  obtain ⟨t4_0, t4_1, hT4, bT4⟩ := q_bigO hI (n_b14 g q)
  obtain ⟨t5_0, hT5, bT5⟩ := n_ai hI (n_s15 g q)
  obtain ⟨t6_0, t6_1, hT6, bT6⟩ := q_bigO hI (n_b16 g q)
  obtain ⟨t7_0, hT7, bT7⟩ := n_ai hI (n_s17 g q)
  obtain ⟨t8_0, t8_1, hT8, bT8⟩ := q_bigO hI (n_b18 g q)
  obtain ⟨t9_0, hT9, bT9⟩ := n_ai hI (n_s19 g q)
  obtain ⟨t10_0, t10_1, hT10, bT10⟩ := q_bigO hI (n_b22 g q)
  obtain ⟨t11_0, hT11, bT11⟩ := n_ai hI (n_s23 g q)
  obtain ⟨t12_0, t12_1, hT12, bT12⟩ := q_bigO hI (n_b24 g q)
  obtain ⟨t13_0, hT13, bT13⟩ := n_ai hI (n_s25 g q)
  obtain ⟨t14_0, hZ9⟩ := hC.1 i3 hi3
  obtain ⟨t14_1, hZ9⟩ := hZ9
  obtain ⟨t15_0, hZ9⟩ := hZ9
  obtain ⟨hT14, hZ9⟩ := hZ9
  obtain ⟨hT15, hZ9⟩ := hZ9
  obtain ⟨vk3, hZ9⟩ := hZ9
  obtain ⟨hbk3, hBk3⟩ := hZ9
  obtain ⟨t16_0, hZ9⟩ := hC.1 i5 hi5
  obtain ⟨t16_1, hZ9⟩ := hZ9
  obtain ⟨t17_0, hZ9⟩ := hZ9
  obtain ⟨hT16, hZ9⟩ := hZ9
  obtain ⟨hT17, hZ9⟩ := hZ9
  obtain ⟨vk5, hZ9⟩ := hZ9
  obtain ⟨hbk5, hBk5⟩ := hZ9
  have hq := T_wholeBy (x2 := x2) (x3 := x3) (x4 := x4) (x5 := x5) (t0_0 := t0_0) (t0_1 := t0_1) (t1_0 := t1_0) (t2_0 := t2_0) (t2_1 := t2_1) (t3_0 := t3_0) (t4_0 := t4_0) (t4_1 := t4_1) (t5_0 := t5_0) (t6_0 := t6_0) (t6_1 := t6_1) (t7_0 := t7_0) (t8_0 := t8_0) (t8_1 := t8_1) (t9_0 := t9_0) (t10_0 := t10_0) (t10_1 := t10_1) (t11_0 := t11_0) (t12_0 := t12_0) (t12_1 := t12_1) (t13_0 := t13_0) (t14_0 := t14_0) (t14_1 := t14_1) (t15_0 := t15_0) (t16_0 := t16_0) (t16_1 := t16_1) (t17_0 := t17_0) hbk3 hBk3 ⟨_, hbk5, hBk5⟩
  refine q_MxV (X_NH_wholeBy l D g q ws x2 x3 x4 x5 (66 + 5 * i3) (n_w g q hi3) (by omega) (fun h => by have z := e3 h; omega) (66 + 5 * i5) (n_w g q hi5) (by omega) (fun h => by have z := e5 h; omega) hlt hI t0_0 t0_1 hT0 t1_0 hT1 t2_0 t2_1 hT2 t3_0 hT3 t4_0 t4_1 hT4 t5_0 hT5 t6_0 t6_1 hT6 t7_0 hT7 t8_0 t8_1 hT8 t9_0 hT9 t10_0 t10_1 hT10 t11_0 hT11 t12_0 t12_1 hT12 t13_0 hT13 t14_0 t14_1 hT14 t15_0 hT15 t16_0 t16_1 hT16 t17_0 hT17 ⟨trivial, hq.1⟩ sz) ?_ ?_
  · rintro u hZ9
    obtain ⟨hI2, hZ9⟩ := hZ9
    obtain ⟨hun, hZ9⟩ := hZ9
    obtain ⟨u0_0, hZ9⟩ := hZ9
    obtain ⟨u0_1, hZ9⟩ := hZ9
    obtain ⟨u1_0, hZ9⟩ := hZ9
    obtain ⟨u2_0, hZ9⟩ := hZ9
    obtain ⟨u2_1, hZ9⟩ := hZ9
    obtain ⟨u3_0, hZ9⟩ := hZ9
    obtain ⟨u4_0, hZ9⟩ := hZ9
    obtain ⟨u4_1, hZ9⟩ := hZ9
    obtain ⟨u5_0, hZ9⟩ := hZ9
    obtain ⟨u6_0, hZ9⟩ := hZ9
    obtain ⟨u6_1, hZ9⟩ := hZ9
    obtain ⟨u7_0, hZ9⟩ := hZ9
    obtain ⟨u8_0, hZ9⟩ := hZ9
    obtain ⟨u8_1, hZ9⟩ := hZ9
    obtain ⟨u9_0, hZ9⟩ := hZ9
    obtain ⟨u10_0, hZ9⟩ := hZ9
    obtain ⟨u10_1, hZ9⟩ := hZ9
    obtain ⟨u11_0, hZ9⟩ := hZ9
    obtain ⟨u12_0, hZ9⟩ := hZ9
    obtain ⟨u12_1, hZ9⟩ := hZ9
    obtain ⟨u13_0, hZ9⟩ := hZ9
    obtain ⟨u16_0, hZ9⟩ := hZ9
    obtain ⟨u16_1, hZ9⟩ := hZ9
    obtain ⟨u17_0, hZ9⟩ := hZ9
    obtain ⟨hU0, hZ9⟩ := hZ9
    obtain ⟨hU1, hZ9⟩ := hZ9
    obtain ⟨hU2, hZ9⟩ := hZ9
    obtain ⟨hU3, hZ9⟩ := hZ9
    obtain ⟨hU4, hZ9⟩ := hZ9
    obtain ⟨hU5, hZ9⟩ := hZ9
    obtain ⟨hU6, hZ9⟩ := hZ9
    obtain ⟨hU7, hZ9⟩ := hZ9
    obtain ⟨hU8, hZ9⟩ := hZ9
    obtain ⟨hU9, hZ9⟩ := hZ9
    obtain ⟨hU10, hZ9⟩ := hZ9
    obtain ⟨hU11, hZ9⟩ := hZ9
    obtain ⟨hU12, hZ9⟩ := hZ9
    obtain ⟨hU13, hZ9⟩ := hZ9
    obtain ⟨hU14, hZ9⟩ := hZ9
    obtain ⟨hU15, hR⟩ := hZ9
    have hF := hR.2.2.2.2.2.2.2.2.2.2.2.2.2.2.2.2.2.2.2.2.2.2.2.2.2.2.2.2.2.2.2.2.2.2.2.2.2.2.2.2.2.2.2.2.2.2.2.2.2.2.2.2.2.2.2.2.2.2.2.2.2.2.2.2.2.2.2.2.2.2
    have hp := hq.2
    rw [← hF] at hp
    refine ⟨hI2, ⟨fun i hi => ?_, fun i hi => ?_, ?_⟩, fun i hi => hun i (by simp only [List.mem_cons, List.not_mem_nil, or_false, not_or]; omega)⟩
    · by_cases hk5 : i = i5
      · rw [hk5]; refine ⟨_, _, _, hU14, hU15, ?_⟩; first | exact hp
      · exact iW_fr (hC.1 i hi) (hun _ (by simp only [List.mem_cons, List.not_mem_nil, or_false, not_or]; omega)) (hun _ (by simp only [List.mem_cons, List.not_mem_nil, or_false, not_or]; omega))
    · exact iD_fr (hC.2.1 i hi) (hun _ (by simp only [List.mem_cons, List.not_mem_nil, or_false, not_or]; omega)) (hun _ (by simp only [List.mem_cons, List.not_mem_nil, or_false, not_or]; omega)) (hun _ (by simp only [List.mem_cons, List.not_mem_nil, or_false, not_or]; omega))
    · exact iO_fr hC.2.2 (hun _ (by simp only [List.mem_cons, List.not_mem_nil, or_false, not_or]; omega)) (hun _ (by simp only [List.mem_cons, List.not_mem_nil, or_false, not_or]; omega)) (hun _ (by simp only [List.mem_cons, List.not_mem_nil, or_false, not_or]; omega))
  · rintro E u hZ9
    obtain ⟨c, hZ9⟩ := hZ9
    obtain ⟨hE, hZ9⟩ := hZ9
    obtain ⟨hc, hZ9⟩ := hZ9
    obtain ⟨hI2, hZ9⟩ := hZ9
    obtain ⟨hun, hZ9⟩ := hZ9
    obtain ⟨u0_0, hZ9⟩ := hZ9
    obtain ⟨u0_1, hZ9⟩ := hZ9
    obtain ⟨u1_0, hZ9⟩ := hZ9
    obtain ⟨u2_0, hZ9⟩ := hZ9
    obtain ⟨u2_1, hZ9⟩ := hZ9
    obtain ⟨u3_0, hZ9⟩ := hZ9
    obtain ⟨u4_0, hZ9⟩ := hZ9
    obtain ⟨u4_1, hZ9⟩ := hZ9
    obtain ⟨u5_0, hZ9⟩ := hZ9
    obtain ⟨u6_0, hZ9⟩ := hZ9
    obtain ⟨u6_1, hZ9⟩ := hZ9
    obtain ⟨u7_0, hZ9⟩ := hZ9
    obtain ⟨u8_0, hZ9⟩ := hZ9
    obtain ⟨u8_1, hZ9⟩ := hZ9
    obtain ⟨u9_0, hZ9⟩ := hZ9
    obtain ⟨u10_0, hZ9⟩ := hZ9
    obtain ⟨u10_1, hZ9⟩ := hZ9
    obtain ⟨u11_0, hZ9⟩ := hZ9
    obtain ⟨u12_0, hZ9⟩ := hZ9
    obtain ⟨u12_1, hZ9⟩ := hZ9
    obtain ⟨u13_0, hZ9⟩ := hZ9
    obtain ⟨u16_0, hZ9⟩ := hZ9
    obtain ⟨u16_1, hZ9⟩ := hZ9
    obtain ⟨u17_0, hZ9⟩ := hZ9
    obtain ⟨hU0, hZ9⟩ := hZ9
    obtain ⟨hU1, hZ9⟩ := hZ9
    obtain ⟨hU2, hZ9⟩ := hZ9
    obtain ⟨hU3, hZ9⟩ := hZ9
    obtain ⟨hU4, hZ9⟩ := hZ9
    obtain ⟨hU5, hZ9⟩ := hZ9
    obtain ⟨hU6, hZ9⟩ := hZ9
    obtain ⟨hU7, hZ9⟩ := hZ9
    obtain ⟨hU8, hZ9⟩ := hZ9
    obtain ⟨hU9, hZ9⟩ := hZ9
    obtain ⟨hU10, hZ9⟩ := hZ9
    obtain ⟨hU11, hZ9⟩ := hZ9
    obtain ⟨hU12, hZ9⟩ := hZ9
    obtain ⟨hU13, hZ9⟩ := hZ9
    obtain ⟨hU14, hZ9⟩ := hZ9
    obtain ⟨hU15, hF⟩ := hZ9
    have hp := hq.2
    rw [← hF] at hp
    have hk := K_NH_wholeBy (x2 := x2) (x3 := x3) (x4 := x4) (x5 := x5) (t0_0 := t0_0) (t0_1 := t0_1) (t1_0 := t1_0) (t2_0 := t2_0) (t2_1 := t2_1) (t3_0 := t3_0) (t4_0 := t4_0) (t4_1 := t4_1) (t5_0 := t5_0) (t6_0 := t6_0) (t6_1 := t6_1) (t7_0 := t7_0) (t8_0 := t8_0) (t8_1 := t8_1) (t9_0 := t9_0) (t10_0 := t10_0) (t10_1 := t10_1) (t11_0 := t11_0) (t12_0 := t12_0) (t12_1 := t12_1) (t13_0 := t13_0) (t14_0 := t14_0) (t14_1 := t14_1) (t15_0 := t15_0) (t16_0 := t16_0) (t16_1 := t16_1) (t17_0 := t17_0)
    rw [← hF] at hk
    replace hk : kC12 c := hk
    refine ⟨⟨c, hE, hk.resolve_left hc⟩, hI2, ⟨fun i hi => ?_, fun i hi => ?_, ?_⟩, fun i hi => hun i (by simp only [List.mem_cons, List.not_mem_nil, or_false, not_or]; omega)⟩
    · by_cases hk5 : i = i5
      · rw [hk5]; refine ⟨_, _, _, hU14, hU15, ?_⟩; first | exact hp
      · exact iW_fr (hC.1 i hi) (hun _ (by simp only [List.mem_cons, List.not_mem_nil, or_false, not_or]; omega)) (hun _ (by simp only [List.mem_cons, List.not_mem_nil, or_false, not_or]; omega))
    · exact iD_fr (hC.2.1 i hi) (hun _ (by simp only [List.mem_cons, List.not_mem_nil, or_false, not_or]; omega)) (hun _ (by simp only [List.mem_cons, List.not_mem_nil, or_false, not_or]; omega)) (hun _ (by simp only [List.mem_cons, List.not_mem_nil, or_false, not_or]; omega))
    · exact iO_fr hC.2.2 (hun _ (by simp only [List.mem_cons, List.not_mem_nil, or_false, not_or]; omega)) (hun _ (by simp only [List.mem_cons, List.not_mem_nil, or_false, not_or]; omega)) (hun _ (by simp only [List.mem_cons, List.not_mem_nil, or_false, not_or]; omega))

set_option maxRecDepth 100000 in
theorem CV_whole (l : Launch) (D : va_G) (g : Nat → ClassId) (q : Nat → Nat) (ws : va_W) (x2 : Int32) (x3 : Int32) (x4 : Int32) (x5 : Int32) (i3 : Nat) (hi3 : i3 < 10) (i4 : Nat) (hi4 : i4 < 10) (i5 : Nat) (hi5 : i5 < 10) (e3 : x3.toNatClampNeg < 10 → i3 = x3.toNatClampNeg) (e4 : x4.toNatClampNeg < 10 → i4 = x4.toNatClampNeg) (e5 : x5.toNatClampNeg < 10 → i5 = x5.toNatClampNeg) (nei3i4 : i3 ≠ i4) (nei4i5 : i4 ≠ i5) (hlt : l.stackTraces = false) (hI : q_I (nsh g q) q ws) (hC : iC g q ws) : ∀ sz, q_Mx l y_NH_whole prog_1_method_8_code 7 none 9 4 24 D g [.ref (q 0), .int x2, .int x3, .int x4, .int x5] ws sz (va_Qv (fun u => iP g q ws u) (q_B D g (va_A ws sz)) (va_A ws sz)) (fun E u => (∃ c : Int32, E = qE c ∧ (c = 1 ∨ c = 2)) ∧ iP g q ws u) := by
  intro sz
  obtain ⟨t0_0, t0_1, hT0, bT0⟩ := q_bigO hI (n_b10 g q)
  obtain ⟨t1_0, hT1, bT1⟩ := n_ai hI (n_s11 g q)
  obtain ⟨t2_0, t2_1, hT2, bT2⟩ := q_bigO hI (n_b12 g q)
  obtain ⟨t3_0, hT3, bT3⟩ := n_ai hI (n_s13 g q)
  obtain ⟨t4_0, t4_1, hT4, bT4⟩ := q_bigO hI (n_b18 g q)
  obtain ⟨t5_0, hT5, bT5⟩ := n_ai hI (n_s19 g q)
  obtain ⟨t6_0, t6_1, hT6, bT6⟩ := q_bigO hI (n_b22 g q)
  obtain ⟨t7_0, hT7, bT7⟩ := n_ai hI (n_s23 g q)
  obtain ⟨t8_0, t8_1, hT8, bT8⟩ := q_bigO hI (n_b24 g q)
  obtain ⟨t9_0, hT9, bT9⟩ := n_ai hI (n_s25 g q)
  obtain ⟨t10_0, t10_1, hT10, bT10⟩ := q_bigO hI (n_b26 g q)
  obtain ⟨t11_0, hT11, bT11⟩ := n_ai hI (n_s27 g q)
  obtain ⟨t12_0, t12_1, hT12, bT12⟩ := q_bigO hI (n_b28 g q)
  obtain ⟨t13_0, hT13, bT13⟩ := n_ai hI (n_s29 g q)
  obtain ⟨t14_0, hZ9⟩ := hC.1 i3 hi3
  obtain ⟨t14_1, hZ9⟩ := hZ9
  obtain ⟨t15_0, hZ9⟩ := hZ9
  obtain ⟨hT14, hZ9⟩ := hZ9
  obtain ⟨hT15, hZ9⟩ := hZ9
  obtain ⟨vk3, hZ9⟩ := hZ9
  obtain ⟨hbk3, hBk3⟩ := hZ9
  obtain ⟨t16_0, hZ9⟩ := hC.1 i4 hi4
  obtain ⟨t16_1, hZ9⟩ := hZ9
  obtain ⟨t17_0, hZ9⟩ := hZ9
  obtain ⟨hT16, hZ9⟩ := hZ9
  obtain ⟨hT17, hZ9⟩ := hZ9
  obtain ⟨vk4, hZ9⟩ := hZ9
  obtain ⟨hbk4, hBk4⟩ := hZ9
  obtain ⟨t18_0, hZ9⟩ := hC.1 i5 hi5
  obtain ⟨t18_1, hZ9⟩ := hZ9
  obtain ⟨t19_0, hZ9⟩ := hZ9
  obtain ⟨hT18, hZ9⟩ := hZ9
  obtain ⟨hT19, hZ9⟩ := hZ9
  obtain ⟨vk5, hZ9⟩ := hZ9
  obtain ⟨hbk5, hBk5⟩ := hZ9
  have hq := T_whole (x2 := x2) (x3 := x3) (x4 := x4) (x5 := x5) (t0_0 := t0_0) (t0_1 := t0_1) (t1_0 := t1_0) (t2_0 := t2_0) (t2_1 := t2_1) (t3_0 := t3_0) (t4_0 := t4_0) (t4_1 := t4_1) (t5_0 := t5_0) (t6_0 := t6_0) (t6_1 := t6_1) (t7_0 := t7_0) (t8_0 := t8_0) (t8_1 := t8_1) (t9_0 := t9_0) (t10_0 := t10_0) (t10_1 := t10_1) (t11_0 := t11_0) (t12_0 := t12_0) (t12_1 := t12_1) (t13_0 := t13_0) (t14_0 := t14_0) (t14_1 := t14_1) (t15_0 := t15_0) (t16_0 := t16_0) (t16_1 := t16_1) (t17_0 := t17_0) (t18_0 := t18_0) (t18_1 := t18_1) (t19_0 := t19_0) hbk3 hBk3 hbk4 hBk4 ⟨_, hbk5, hBk5⟩
  refine q_MxV (X_NH_whole l D g q ws x2 x3 x4 x5 (66 + 5 * i3) (n_w g q hi3) (by omega) (fun h => by have z := e3 h; omega) (66 + 5 * i4) (n_w g q hi4) (by omega) (fun h => by have z := e4 h; omega) (66 + 5 * i5) (n_w g q hi5) (by omega) (fun h => by have z := e5 h; omega) (by omega) (by omega) (by omega) (by omega) (by omega) (by omega) hlt hI t0_0 t0_1 hT0 t1_0 hT1 t2_0 t2_1 hT2 t3_0 hT3 t4_0 t4_1 hT4 t5_0 hT5 t6_0 t6_1 hT6 t7_0 hT7 t8_0 t8_1 hT8 t9_0 hT9 t10_0 t10_1 hT10 t11_0 hT11 t12_0 t12_1 hT12 t13_0 hT13 t14_0 t14_1 hT14 t15_0 hT15 t16_0 t16_1 hT16 t17_0 hT17 t18_0 t18_1 hT18 t19_0 hT19 ⟨trivial, hq.1⟩ sz) ?_ ?_
  · rintro u hZ9
    obtain ⟨hI2, hZ9⟩ := hZ9
    obtain ⟨hun, hZ9⟩ := hZ9
    obtain ⟨u0_0, hZ9⟩ := hZ9
    obtain ⟨u0_1, hZ9⟩ := hZ9
    obtain ⟨u1_0, hZ9⟩ := hZ9
    obtain ⟨u2_0, hZ9⟩ := hZ9
    obtain ⟨u2_1, hZ9⟩ := hZ9
    obtain ⟨u3_0, hZ9⟩ := hZ9
    obtain ⟨u4_0, hZ9⟩ := hZ9
    obtain ⟨u4_1, hZ9⟩ := hZ9
    obtain ⟨u5_0, hZ9⟩ := hZ9
    obtain ⟨u6_0, hZ9⟩ := hZ9
    obtain ⟨u6_1, hZ9⟩ := hZ9
    obtain ⟨u7_0, hZ9⟩ := hZ9
    obtain ⟨u8_0, hZ9⟩ := hZ9
    obtain ⟨u8_1, hZ9⟩ := hZ9
    obtain ⟨u9_0, hZ9⟩ := hZ9
    obtain ⟨u10_0, hZ9⟩ := hZ9
    obtain ⟨u10_1, hZ9⟩ := hZ9
    obtain ⟨u11_0, hZ9⟩ := hZ9
    obtain ⟨u12_0, hZ9⟩ := hZ9
    obtain ⟨u12_1, hZ9⟩ := hZ9
    obtain ⟨u13_0, hZ9⟩ := hZ9
    obtain ⟨u16_0, hZ9⟩ := hZ9
    obtain ⟨u16_1, hZ9⟩ := hZ9
    obtain ⟨u17_0, hZ9⟩ := hZ9
    obtain ⟨u18_0, hZ9⟩ := hZ9
    obtain ⟨u18_1, hZ9⟩ := hZ9
    obtain ⟨u19_0, hZ9⟩ := hZ9
    obtain ⟨hU0, hZ9⟩ := hZ9
    obtain ⟨hU1, hZ9⟩ := hZ9
    obtain ⟨hU2, hZ9⟩ := hZ9
    obtain ⟨hU3, hZ9⟩ := hZ9
    obtain ⟨hU4, hZ9⟩ := hZ9
    obtain ⟨hU5, hZ9⟩ := hZ9
    obtain ⟨hU6, hZ9⟩ := hZ9
    obtain ⟨hU7, hZ9⟩ := hZ9
    obtain ⟨hU8, hZ9⟩ := hZ9
    obtain ⟨hU9, hZ9⟩ := hZ9
    obtain ⟨hU10, hZ9⟩ := hZ9
    obtain ⟨hU11, hZ9⟩ := hZ9
    obtain ⟨hU12, hZ9⟩ := hZ9
    obtain ⟨hU13, hZ9⟩ := hZ9
    obtain ⟨hU14, hZ9⟩ := hZ9
    obtain ⟨hU15, hZ9⟩ := hZ9
    obtain ⟨hU16, hZ9⟩ := hZ9
    obtain ⟨hU17, hR⟩ := hZ9
    have hF := hR.2.2.2.2.2.2.2.2.2.2.2.2.2.2.2.2.2.2.2.2.2.2.2.2.2.2.2.2.2.2.2.2.2.2.2.2.2.2.2.2.2.2.2.2.2.2.2.2.2.2.2.2.2.2.2.2.2.2.2.2.2.2.2.2.2.2.2.2.2.2.2.2.2.2.2.2.2.2.2.2.2.2.2.2.2.2.2.2.2.2.2.2.2.2.2.2.2.2.2.2.2.2.2.2.2.2.2.2.2.2.2.2.2
    have hp := hq.2
    rw [← hF] at hp
    refine ⟨hI2, ⟨fun i hi => ?_, fun i hi => ?_, ?_⟩, fun i hi => hun i (by simp only [List.mem_cons, List.not_mem_nil, or_false, not_or]; omega)⟩
    · by_cases hk4 : i = i4
      · rw [hk4]; refine ⟨_, _, _, hU14, hU15, ?_⟩; first | exact ⟨_, hp.2, hBk4⟩
      · by_cases hk5 : i = i5
        · rw [hk5]; refine ⟨_, _, _, hU16, hU17, ?_⟩; first | exact hp.1
        · exact iW_fr (hC.1 i hi) (hun _ (by simp only [List.mem_cons, List.not_mem_nil, or_false, not_or]; omega)) (hun _ (by simp only [List.mem_cons, List.not_mem_nil, or_false, not_or]; omega))
    · exact iD_fr (hC.2.1 i hi) (hun _ (by simp only [List.mem_cons, List.not_mem_nil, or_false, not_or]; omega)) (hun _ (by simp only [List.mem_cons, List.not_mem_nil, or_false, not_or]; omega)) (hun _ (by simp only [List.mem_cons, List.not_mem_nil, or_false, not_or]; omega))
    · exact iO_fr hC.2.2 (hun _ (by simp only [List.mem_cons, List.not_mem_nil, or_false, not_or]; omega)) (hun _ (by simp only [List.mem_cons, List.not_mem_nil, or_false, not_or]; omega)) (hun _ (by simp only [List.mem_cons, List.not_mem_nil, or_false, not_or]; omega))
  · rintro E u hZ9
    obtain ⟨c, hZ9⟩ := hZ9
    obtain ⟨hE, hZ9⟩ := hZ9
    obtain ⟨hc, hZ9⟩ := hZ9
    obtain ⟨hI2, hZ9⟩ := hZ9
    obtain ⟨hun, hZ9⟩ := hZ9
    obtain ⟨u0_0, hZ9⟩ := hZ9
    obtain ⟨u0_1, hZ9⟩ := hZ9
    obtain ⟨u1_0, hZ9⟩ := hZ9
    obtain ⟨u2_0, hZ9⟩ := hZ9
    obtain ⟨u2_1, hZ9⟩ := hZ9
    obtain ⟨u3_0, hZ9⟩ := hZ9
    obtain ⟨u4_0, hZ9⟩ := hZ9
    obtain ⟨u4_1, hZ9⟩ := hZ9
    obtain ⟨u5_0, hZ9⟩ := hZ9
    obtain ⟨u6_0, hZ9⟩ := hZ9
    obtain ⟨u6_1, hZ9⟩ := hZ9
    obtain ⟨u7_0, hZ9⟩ := hZ9
    obtain ⟨u8_0, hZ9⟩ := hZ9
    obtain ⟨u8_1, hZ9⟩ := hZ9
    obtain ⟨u9_0, hZ9⟩ := hZ9
    obtain ⟨u10_0, hZ9⟩ := hZ9
    obtain ⟨u10_1, hZ9⟩ := hZ9
    obtain ⟨u11_0, hZ9⟩ := hZ9
    obtain ⟨u12_0, hZ9⟩ := hZ9
    obtain ⟨u12_1, hZ9⟩ := hZ9
    obtain ⟨u13_0, hZ9⟩ := hZ9
    obtain ⟨u16_0, hZ9⟩ := hZ9
    obtain ⟨u16_1, hZ9⟩ := hZ9
    obtain ⟨u17_0, hZ9⟩ := hZ9
    obtain ⟨u18_0, hZ9⟩ := hZ9
    obtain ⟨u18_1, hZ9⟩ := hZ9
    obtain ⟨u19_0, hZ9⟩ := hZ9
    obtain ⟨hU0, hZ9⟩ := hZ9
    obtain ⟨hU1, hZ9⟩ := hZ9
    obtain ⟨hU2, hZ9⟩ := hZ9
    obtain ⟨hU3, hZ9⟩ := hZ9
    obtain ⟨hU4, hZ9⟩ := hZ9
    obtain ⟨hU5, hZ9⟩ := hZ9
    obtain ⟨hU6, hZ9⟩ := hZ9
    obtain ⟨hU7, hZ9⟩ := hZ9
    obtain ⟨hU8, hZ9⟩ := hZ9
    obtain ⟨hU9, hZ9⟩ := hZ9
    obtain ⟨hU10, hZ9⟩ := hZ9
    obtain ⟨hU11, hZ9⟩ := hZ9
    obtain ⟨hU12, hZ9⟩ := hZ9
    obtain ⟨hU13, hZ9⟩ := hZ9
    obtain ⟨hU14, hZ9⟩ := hZ9
    obtain ⟨hU15, hZ9⟩ := hZ9
    obtain ⟨hU16, hZ9⟩ := hZ9
    obtain ⟨hU17, hF⟩ := hZ9
    have hp := hq.2
    rw [← hF] at hp
    have hk := K_NH_whole (x2 := x2) (x3 := x3) (x4 := x4) (x5 := x5) (t0_0 := t0_0) (t0_1 := t0_1) (t1_0 := t1_0) (t2_0 := t2_0) (t2_1 := t2_1) (t3_0 := t3_0) (t4_0 := t4_0) (t4_1 := t4_1) (t5_0 := t5_0) (t6_0 := t6_0) (t6_1 := t6_1) (t7_0 := t7_0) (t8_0 := t8_0) (t8_1 := t8_1) (t9_0 := t9_0) (t10_0 := t10_0) (t10_1 := t10_1) (t11_0 := t11_0) (t12_0 := t12_0) (t12_1 := t12_1) (t13_0 := t13_0) (t14_0 := t14_0) (t14_1 := t14_1) (t15_0 := t15_0) (t16_0 := t16_0) (t16_1 := t16_1) (t17_0 := t17_0) (t18_0 := t18_0) (t18_1 := t18_1) (t19_0 := t19_0)
    rw [← hF] at hk
    replace hk : kC12 c := hk
    refine ⟨⟨c, hE, hk.resolve_left hc⟩, hI2, ⟨fun i hi => ?_, fun i hi => ?_, ?_⟩, fun i hi => hun i (by simp only [List.mem_cons, List.not_mem_nil, or_false, not_or]; omega)⟩
    · by_cases hk4 : i = i4
      · rw [hk4]; refine ⟨_, _, _, hU14, hU15, ?_⟩; first | exact ⟨_, hp.2, hBk4⟩
      · by_cases hk5 : i = i5
        · rw [hk5]; refine ⟨_, _, _, hU16, hU17, ?_⟩; first | exact hp.1
        · exact iW_fr (hC.1 i hi) (hun _ (by simp only [List.mem_cons, List.not_mem_nil, or_false, not_or]; omega)) (hun _ (by simp only [List.mem_cons, List.not_mem_nil, or_false, not_or]; omega))
    · exact iD_fr (hC.2.1 i hi) (hun _ (by simp only [List.mem_cons, List.not_mem_nil, or_false, not_or]; omega)) (hun _ (by simp only [List.mem_cons, List.not_mem_nil, or_false, not_or]; omega)) (hun _ (by simp only [List.mem_cons, List.not_mem_nil, or_false, not_or]; omega))
    · exact iO_fr hC.2.2 (hun _ (by simp only [List.mem_cons, List.not_mem_nil, or_false, not_or]; omega)) (hun _ (by simp only [List.mem_cons, List.not_mem_nil, or_false, not_or]; omega)) (hun _ (by simp only [List.mem_cons, List.not_mem_nil, or_false, not_or]; omega))
set_option maxRecDepth 100000 in
theorem CV_whole_ab (l : Launch) (D : va_G) (g : Nat → ClassId) (q : Nat → Nat) (ws : va_W) (x2 : Int32) (x3 : Int32) (x4 : Int32) (x5 : Int32) (i3 : Nat) (hi3 : i3 < 10) (i5 : Nat) (hi5 : i5 < 10) (e3 : x3.toNatClampNeg < 10 → i3 = x3.toNatClampNeg) (e4 : x4.toNatClampNeg < 10 → i3 = x4.toNatClampNeg) (e5 : x5.toNatClampNeg < 10 → i5 = x5.toNatClampNeg) (nei3i5 : i3 ≠ i5) (hlt : l.stackTraces = false) (hI : q_I (nsh g q) q ws) (hC : iC g q ws) : ∀ sz, q_Mx l y_NH_whole prog_1_method_8_code 7 none 9 4 24 D g [.ref (q 0), .int x2, .int x3, .int x4, .int x5] ws sz (va_Qv (fun u => iP g q ws u) (q_B D g (va_A ws sz)) (va_A ws sz)) (fun E u => (∃ c : Int32, E = qE c ∧ (c = 1 ∨ c = 2)) ∧ iP g q ws u) := by
  intro sz
  obtain ⟨t0_0, t0_1, hT0, bT0⟩ := q_bigO hI (n_b10 g q)
  obtain ⟨t1_0, hT1, bT1⟩ := n_ai hI (n_s11 g q)
  obtain ⟨t2_0, t2_1, hT2, bT2⟩ := q_bigO hI (n_b12 g q)
  obtain ⟨t3_0, hT3, bT3⟩ := n_ai hI (n_s13 g q)
  obtain ⟨t4_0, t4_1, hT4, bT4⟩ := q_bigO hI (n_b18 g q)
  obtain ⟨t5_0, hT5, bT5⟩ := n_ai hI (n_s19 g q)
  obtain ⟨t6_0, t6_1, hT6, bT6⟩ := q_bigO hI (n_b22 g q)
  obtain ⟨t7_0, hT7, bT7⟩ := n_ai hI (n_s23 g q)
  obtain ⟨t8_0, t8_1, hT8, bT8⟩ := q_bigO hI (n_b24 g q)
  obtain ⟨t9_0, hT9, bT9⟩ := n_ai hI (n_s25 g q)
  obtain ⟨t10_0, t10_1, hT10, bT10⟩ := q_bigO hI (n_b26 g q)
  obtain ⟨t11_0, hT11, bT11⟩ := n_ai hI (n_s27 g q)
  obtain ⟨t12_0, t12_1, hT12, bT12⟩ := q_bigO hI (n_b28 g q)
  obtain ⟨t13_0, hT13, bT13⟩ := n_ai hI (n_s29 g q)
  obtain ⟨t14_0, hZ9⟩ := hC.1 i3 hi3
  obtain ⟨t14_1, hZ9⟩ := hZ9
  obtain ⟨t15_0, hZ9⟩ := hZ9
  obtain ⟨hT14, hZ9⟩ := hZ9
  obtain ⟨hT15, hZ9⟩ := hZ9
  obtain ⟨vk3, hZ9⟩ := hZ9
  obtain ⟨hbk3, hBk3⟩ := hZ9
  obtain ⟨t16_0, hZ9⟩ := hC.1 i5 hi5
  obtain ⟨t16_1, hZ9⟩ := hZ9
  obtain ⟨t17_0, hZ9⟩ := hZ9
  obtain ⟨hT16, hZ9⟩ := hZ9
  obtain ⟨hT17, hZ9⟩ := hZ9
  obtain ⟨vk5, hZ9⟩ := hZ9
  obtain ⟨hbk5, hBk5⟩ := hZ9
  have hq := T_whole_ab (x2 := x2) (x3 := x3) (x4 := x4) (x5 := x5) (t0_0 := t0_0) (t0_1 := t0_1) (t1_0 := t1_0) (t2_0 := t2_0) (t2_1 := t2_1) (t3_0 := t3_0) (t4_0 := t4_0) (t4_1 := t4_1) (t5_0 := t5_0) (t6_0 := t6_0) (t6_1 := t6_1) (t7_0 := t7_0) (t8_0 := t8_0) (t8_1 := t8_1) (t9_0 := t9_0) (t10_0 := t10_0) (t10_1 := t10_1) (t11_0 := t11_0) (t12_0 := t12_0) (t12_1 := t12_1) (t13_0 := t13_0) (t14_0 := t14_0) (t14_1 := t14_1) (t15_0 := t15_0) (t16_0 := t16_0) (t16_1 := t16_1) (t17_0 := t17_0) hbk3 hBk3 ⟨_, hbk5, hBk5⟩
  refine q_MxV (X_NH_whole_ab l D g q ws x2 x3 x4 x5 (66 + 5 * i3) (n_w g q hi3) (by omega) (fun h => by have z := e3 h; omega) (fun h => by have z := e4 h; omega) (66 + 5 * i5) (n_w g q hi5) (by omega) (fun h => by have z := e5 h; omega) (by omega) (by omega) (by omega) hlt hI t0_0 t0_1 hT0 t1_0 hT1 t2_0 t2_1 hT2 t3_0 hT3 t4_0 t4_1 hT4 t5_0 hT5 t6_0 t6_1 hT6 t7_0 hT7 t8_0 t8_1 hT8 t9_0 hT9 t10_0 t10_1 hT10 t11_0 hT11 t12_0 t12_1 hT12 t13_0 hT13 t14_0 t14_1 hT14 t15_0 hT15 t16_0 t16_1 hT16 t17_0 hT17 ⟨trivial, hq.1⟩ sz) ?_ ?_
  · rintro u hZ9
    obtain ⟨hI2, hZ9⟩ := hZ9
    obtain ⟨hun, hZ9⟩ := hZ9
    obtain ⟨u0_0, hZ9⟩ := hZ9
    obtain ⟨u0_1, hZ9⟩ := hZ9
    obtain ⟨u1_0, hZ9⟩ := hZ9
    obtain ⟨u2_0, hZ9⟩ := hZ9
    obtain ⟨u2_1, hZ9⟩ := hZ9
    obtain ⟨u3_0, hZ9⟩ := hZ9
    obtain ⟨u4_0, hZ9⟩ := hZ9
    obtain ⟨u4_1, hZ9⟩ := hZ9
    obtain ⟨u5_0, hZ9⟩ := hZ9
    obtain ⟨u6_0, hZ9⟩ := hZ9
    obtain ⟨u6_1, hZ9⟩ := hZ9
    obtain ⟨u7_0, hZ9⟩ := hZ9
    obtain ⟨u8_0, hZ9⟩ := hZ9
    obtain ⟨u8_1, hZ9⟩ := hZ9
    obtain ⟨u9_0, hZ9⟩ := hZ9
    obtain ⟨u10_0, hZ9⟩ := hZ9
    obtain ⟨u10_1, hZ9⟩ := hZ9
    obtain ⟨u11_0, hZ9⟩ := hZ9
    obtain ⟨u12_0, hZ9⟩ := hZ9
    obtain ⟨u12_1, hZ9⟩ := hZ9
    obtain ⟨u13_0, hZ9⟩ := hZ9
    obtain ⟨u14_0, hZ9⟩ := hZ9
    obtain ⟨u14_1, hZ9⟩ := hZ9
    obtain ⟨u15_0, hZ9⟩ := hZ9
    obtain ⟨u16_0, hZ9⟩ := hZ9
    obtain ⟨u16_1, hZ9⟩ := hZ9
    obtain ⟨u17_0, hZ9⟩ := hZ9
    obtain ⟨hU0, hZ9⟩ := hZ9
    obtain ⟨hU1, hZ9⟩ := hZ9
    obtain ⟨hU2, hZ9⟩ := hZ9
    obtain ⟨hU3, hZ9⟩ := hZ9
    obtain ⟨hU4, hZ9⟩ := hZ9
    obtain ⟨hU5, hZ9⟩ := hZ9
    obtain ⟨hU6, hZ9⟩ := hZ9
    obtain ⟨hU7, hZ9⟩ := hZ9
    obtain ⟨hU8, hZ9⟩ := hZ9
    obtain ⟨hU9, hZ9⟩ := hZ9
    obtain ⟨hU10, hZ9⟩ := hZ9
    obtain ⟨hU11, hZ9⟩ := hZ9
    obtain ⟨hU12, hZ9⟩ := hZ9
    obtain ⟨hU13, hZ9⟩ := hZ9
    obtain ⟨hU14, hZ9⟩ := hZ9
    obtain ⟨hU15, hZ9⟩ := hZ9
    obtain ⟨hU16, hZ9⟩ := hZ9
    obtain ⟨hU17, hR⟩ := hZ9
    have hF := hR.2.2.2.2.2.2.2.2.2.2.2.2.2.2.2.2.2.2.2.2.2.2.2.2.2.2.2.2.2.2.2.2.2.2.2.2.2.2.2.2.2.2.2.2.2.2.2.2.2.2.2.2.2.2.2.2.2.2.2.2.2.2.2.2.2.2.2.2.2.2.2.2.2.2.2.2.2.2.2.2.2.2.2.2.2.2.2.2.2.2.2.2.2.2.2.2.2.2.2.2.2.2.2.2.2.2.2.2.2.2.2
    have hp := hq.2
    rw [← hF] at hp
    refine ⟨hI2, ⟨fun i hi => ?_, fun i hi => ?_, ?_⟩, fun i hi => hun i (by simp only [List.mem_cons, List.not_mem_nil, or_false, not_or]; omega)⟩
    · by_cases hk3 : i = i3
      · rw [hk3]; refine ⟨_, _, _, hU14, hU15, ?_⟩; first | exact ⟨_, hp.2, hBk3⟩
      · by_cases hk5 : i = i5
        · rw [hk5]; refine ⟨_, _, _, hU16, hU17, ?_⟩; first | exact hp.1
        · exact iW_fr (hC.1 i hi) (hun _ (by simp only [List.mem_cons, List.not_mem_nil, or_false, not_or]; omega)) (hun _ (by simp only [List.mem_cons, List.not_mem_nil, or_false, not_or]; omega))
    · exact iD_fr (hC.2.1 i hi) (hun _ (by simp only [List.mem_cons, List.not_mem_nil, or_false, not_or]; omega)) (hun _ (by simp only [List.mem_cons, List.not_mem_nil, or_false, not_or]; omega)) (hun _ (by simp only [List.mem_cons, List.not_mem_nil, or_false, not_or]; omega))
    · exact iO_fr hC.2.2 (hun _ (by simp only [List.mem_cons, List.not_mem_nil, or_false, not_or]; omega)) (hun _ (by simp only [List.mem_cons, List.not_mem_nil, or_false, not_or]; omega)) (hun _ (by simp only [List.mem_cons, List.not_mem_nil, or_false, not_or]; omega))
  · rintro E u hZ9
    obtain ⟨c, hZ9⟩ := hZ9
    obtain ⟨hE, hZ9⟩ := hZ9
    obtain ⟨hc, hZ9⟩ := hZ9
    obtain ⟨hI2, hZ9⟩ := hZ9
    obtain ⟨hun, hZ9⟩ := hZ9
    obtain ⟨u0_0, hZ9⟩ := hZ9
    obtain ⟨u0_1, hZ9⟩ := hZ9
    obtain ⟨u1_0, hZ9⟩ := hZ9
    obtain ⟨u2_0, hZ9⟩ := hZ9
    obtain ⟨u2_1, hZ9⟩ := hZ9
    obtain ⟨u3_0, hZ9⟩ := hZ9
    obtain ⟨u4_0, hZ9⟩ := hZ9
    obtain ⟨u4_1, hZ9⟩ := hZ9
    obtain ⟨u5_0, hZ9⟩ := hZ9
    obtain ⟨u6_0, hZ9⟩ := hZ9
    obtain ⟨u6_1, hZ9⟩ := hZ9
    obtain ⟨u7_0, hZ9⟩ := hZ9
    obtain ⟨u8_0, hZ9⟩ := hZ9
    obtain ⟨u8_1, hZ9⟩ := hZ9
    obtain ⟨u9_0, hZ9⟩ := hZ9
    obtain ⟨u10_0, hZ9⟩ := hZ9
    obtain ⟨u10_1, hZ9⟩ := hZ9
    obtain ⟨u11_0, hZ9⟩ := hZ9
    obtain ⟨u12_0, hZ9⟩ := hZ9
    obtain ⟨u12_1, hZ9⟩ := hZ9
    obtain ⟨u13_0, hZ9⟩ := hZ9
    obtain ⟨u14_0, hZ9⟩ := hZ9
    obtain ⟨u14_1, hZ9⟩ := hZ9
    obtain ⟨u15_0, hZ9⟩ := hZ9
    obtain ⟨u16_0, hZ9⟩ := hZ9
    obtain ⟨u16_1, hZ9⟩ := hZ9
    obtain ⟨u17_0, hZ9⟩ := hZ9
    obtain ⟨hU0, hZ9⟩ := hZ9
    obtain ⟨hU1, hZ9⟩ := hZ9
    obtain ⟨hU2, hZ9⟩ := hZ9
    obtain ⟨hU3, hZ9⟩ := hZ9
    obtain ⟨hU4, hZ9⟩ := hZ9
    obtain ⟨hU5, hZ9⟩ := hZ9
    obtain ⟨hU6, hZ9⟩ := hZ9
    obtain ⟨hU7, hZ9⟩ := hZ9
    obtain ⟨hU8, hZ9⟩ := hZ9
    obtain ⟨hU9, hZ9⟩ := hZ9
    obtain ⟨hU10, hZ9⟩ := hZ9
    obtain ⟨hU11, hZ9⟩ := hZ9
    obtain ⟨hU12, hZ9⟩ := hZ9
    obtain ⟨hU13, hZ9⟩ := hZ9
    obtain ⟨hU14, hZ9⟩ := hZ9
    obtain ⟨hU15, hZ9⟩ := hZ9
    obtain ⟨hU16, hZ9⟩ := hZ9
    obtain ⟨hU17, hF⟩ := hZ9
    have hp := hq.2
    rw [← hF] at hp
    have hk := K_NH_whole_ab (x2 := x2) (x3 := x3) (x4 := x4) (x5 := x5) (t0_0 := t0_0) (t0_1 := t0_1) (t1_0 := t1_0) (t2_0 := t2_0) (t2_1 := t2_1) (t3_0 := t3_0) (t4_0 := t4_0) (t4_1 := t4_1) (t5_0 := t5_0) (t6_0 := t6_0) (t6_1 := t6_1) (t7_0 := t7_0) (t8_0 := t8_0) (t8_1 := t8_1) (t9_0 := t9_0) (t10_0 := t10_0) (t10_1 := t10_1) (t11_0 := t11_0) (t12_0 := t12_0) (t12_1 := t12_1) (t13_0 := t13_0) (t14_0 := t14_0) (t14_1 := t14_1) (t15_0 := t15_0) (t16_0 := t16_0) (t16_1 := t16_1) (t17_0 := t17_0)
    rw [← hF] at hk
    replace hk : kC12 c := hk
    refine ⟨⟨c, hE, hk.resolve_left hc⟩, hI2, ⟨fun i hi => ?_, fun i hi => ?_, ?_⟩, fun i hi => hun i (by simp only [List.mem_cons, List.not_mem_nil, or_false, not_or]; omega)⟩
    · by_cases hk3 : i = i3
      · rw [hk3]; refine ⟨_, _, _, hU14, hU15, ?_⟩; first | exact ⟨_, hp.2, hBk3⟩
      · by_cases hk5 : i = i5
        · rw [hk5]; refine ⟨_, _, _, hU16, hU17, ?_⟩; first | exact hp.1
        · exact iW_fr (hC.1 i hi) (hun _ (by simp only [List.mem_cons, List.not_mem_nil, or_false, not_or]; omega)) (hun _ (by simp only [List.mem_cons, List.not_mem_nil, or_false, not_or]; omega))
    · exact iD_fr (hC.2.1 i hi) (hun _ (by simp only [List.mem_cons, List.not_mem_nil, or_false, not_or]; omega)) (hun _ (by simp only [List.mem_cons, List.not_mem_nil, or_false, not_or]; omega)) (hun _ (by simp only [List.mem_cons, List.not_mem_nil, or_false, not_or]; omega))
    · exact iO_fr hC.2.2 (hun _ (by simp only [List.mem_cons, List.not_mem_nil, or_false, not_or]; omega)) (hun _ (by simp only [List.mem_cons, List.not_mem_nil, or_false, not_or]; omega)) (hun _ (by simp only [List.mem_cons, List.not_mem_nil, or_false, not_or]; omega))
set_option maxRecDepth 100000 in
theorem CV_whole_bt (l : Launch) (D : va_G) (g : Nat → ClassId) (q : Nat → Nat) (ws : va_W) (x2 : Int32) (x3 : Int32) (x4 : Int32) (x5 : Int32) (i3 : Nat) (hi3 : i3 < 10) (i4 : Nat) (hi4 : i4 < 10) (e3 : x3.toNatClampNeg < 10 → i3 = x3.toNatClampNeg) (e4 : x4.toNatClampNeg < 10 → i4 = x4.toNatClampNeg) (e5 : x5.toNatClampNeg < 10 → i4 = x5.toNatClampNeg) (nei3i4 : i3 ≠ i4) (hlt : l.stackTraces = false) (hI : q_I (nsh g q) q ws) (hC : iC g q ws) : ∀ sz, q_Mx l y_NH_whole prog_1_method_8_code 7 none 9 4 24 D g [.ref (q 0), .int x2, .int x3, .int x4, .int x5] ws sz (va_Qv (fun u => iP g q ws u) (q_B D g (va_A ws sz)) (va_A ws sz)) (fun E u => (∃ c : Int32, E = qE c ∧ (c = 1 ∨ c = 2)) ∧ iP g q ws u) := by
  intro sz
  obtain ⟨t0_0, t0_1, hT0, bT0⟩ := q_bigO hI (n_b10 g q)
  obtain ⟨t1_0, hT1, bT1⟩ := n_ai hI (n_s11 g q)
  obtain ⟨t2_0, t2_1, hT2, bT2⟩ := q_bigO hI (n_b12 g q)
  obtain ⟨t3_0, hT3, bT3⟩ := n_ai hI (n_s13 g q)
  obtain ⟨t4_0, t4_1, hT4, bT4⟩ := q_bigO hI (n_b18 g q)
  obtain ⟨t5_0, hT5, bT5⟩ := n_ai hI (n_s19 g q)
  obtain ⟨t6_0, t6_1, hT6, bT6⟩ := q_bigO hI (n_b22 g q)
  obtain ⟨t7_0, hT7, bT7⟩ := n_ai hI (n_s23 g q)
  obtain ⟨t8_0, t8_1, hT8, bT8⟩ := q_bigO hI (n_b24 g q)
  obtain ⟨t9_0, hT9, bT9⟩ := n_ai hI (n_s25 g q)
  obtain ⟨t10_0, t10_1, hT10, bT10⟩ := q_bigO hI (n_b26 g q)
  obtain ⟨t11_0, hT11, bT11⟩ := n_ai hI (n_s27 g q)
  obtain ⟨t12_0, t12_1, hT12, bT12⟩ := q_bigO hI (n_b28 g q)
  obtain ⟨t13_0, hT13, bT13⟩ := n_ai hI (n_s29 g q)
  obtain ⟨t14_0, hZ9⟩ := hC.1 i3 hi3
  obtain ⟨t14_1, hZ9⟩ := hZ9
  obtain ⟨t15_0, hZ9⟩ := hZ9
  obtain ⟨hT14, hZ9⟩ := hZ9
  obtain ⟨hT15, hZ9⟩ := hZ9
  obtain ⟨vk3, hZ9⟩ := hZ9
  obtain ⟨hbk3, hBk3⟩ := hZ9
  obtain ⟨t16_0, hZ9⟩ := hC.1 i4 hi4
  obtain ⟨t16_1, hZ9⟩ := hZ9
  obtain ⟨t17_0, hZ9⟩ := hZ9
  obtain ⟨hT16, hZ9⟩ := hZ9
  obtain ⟨hT17, hZ9⟩ := hZ9
  obtain ⟨vk4, hZ9⟩ := hZ9
  obtain ⟨hbk4, hBk4⟩ := hZ9
  have hq := T_whole_bt (x2 := x2) (x3 := x3) (x4 := x4) (x5 := x5) (t0_0 := t0_0) (t0_1 := t0_1) (t1_0 := t1_0) (t2_0 := t2_0) (t2_1 := t2_1) (t3_0 := t3_0) (t4_0 := t4_0) (t4_1 := t4_1) (t5_0 := t5_0) (t6_0 := t6_0) (t6_1 := t6_1) (t7_0 := t7_0) (t8_0 := t8_0) (t8_1 := t8_1) (t9_0 := t9_0) (t10_0 := t10_0) (t10_1 := t10_1) (t11_0 := t11_0) (t12_0 := t12_0) (t12_1 := t12_1) (t13_0 := t13_0) (t14_0 := t14_0) (t14_1 := t14_1) (t15_0 := t15_0) (t16_0 := t16_0) (t16_1 := t16_1) (t17_0 := t17_0) hbk3 hBk3 hbk4 hBk4
  refine q_MxV (X_NH_whole_bt l D g q ws x2 x3 x4 x5 (66 + 5 * i3) (n_w g q hi3) (by omega) (fun h => by have z := e3 h; omega) (66 + 5 * i4) (n_w g q hi4) (by omega) (fun h => by have z := e4 h; omega) (fun h => by have z := e5 h; omega) (by omega) hlt hI t0_0 t0_1 hT0 t1_0 hT1 t2_0 t2_1 hT2 t3_0 hT3 t4_0 t4_1 hT4 t5_0 hT5 t6_0 t6_1 hT6 t7_0 hT7 t8_0 t8_1 hT8 t9_0 hT9 t10_0 t10_1 hT10 t11_0 hT11 t12_0 t12_1 hT12 t13_0 hT13 t14_0 t14_1 hT14 t15_0 hT15 t16_0 t16_1 hT16 t17_0 hT17 ⟨trivial, hq.1⟩ sz) ?_ ?_
  · rintro u hZ9
    obtain ⟨hI2, hZ9⟩ := hZ9
    obtain ⟨hun, hZ9⟩ := hZ9
    obtain ⟨u0_0, hZ9⟩ := hZ9
    obtain ⟨u0_1, hZ9⟩ := hZ9
    obtain ⟨u1_0, hZ9⟩ := hZ9
    obtain ⟨u2_0, hZ9⟩ := hZ9
    obtain ⟨u2_1, hZ9⟩ := hZ9
    obtain ⟨u3_0, hZ9⟩ := hZ9
    obtain ⟨u4_0, hZ9⟩ := hZ9
    obtain ⟨u4_1, hZ9⟩ := hZ9
    obtain ⟨u5_0, hZ9⟩ := hZ9
    obtain ⟨u6_0, hZ9⟩ := hZ9
    obtain ⟨u6_1, hZ9⟩ := hZ9
    obtain ⟨u7_0, hZ9⟩ := hZ9
    obtain ⟨u8_0, hZ9⟩ := hZ9
    obtain ⟨u8_1, hZ9⟩ := hZ9
    obtain ⟨u9_0, hZ9⟩ := hZ9
    obtain ⟨u10_0, hZ9⟩ := hZ9
    obtain ⟨u10_1, hZ9⟩ := hZ9
    obtain ⟨u11_0, hZ9⟩ := hZ9
    obtain ⟨u12_0, hZ9⟩ := hZ9
    obtain ⟨u12_1, hZ9⟩ := hZ9
    obtain ⟨u13_0, hZ9⟩ := hZ9
    obtain ⟨u16_0, hZ9⟩ := hZ9
    obtain ⟨u16_1, hZ9⟩ := hZ9
    obtain ⟨u17_0, hZ9⟩ := hZ9
    obtain ⟨hU0, hZ9⟩ := hZ9
    obtain ⟨hU1, hZ9⟩ := hZ9
    obtain ⟨hU2, hZ9⟩ := hZ9
    obtain ⟨hU3, hZ9⟩ := hZ9
    obtain ⟨hU4, hZ9⟩ := hZ9
    obtain ⟨hU5, hZ9⟩ := hZ9
    obtain ⟨hU6, hZ9⟩ := hZ9
    obtain ⟨hU7, hZ9⟩ := hZ9
    obtain ⟨hU8, hZ9⟩ := hZ9
    obtain ⟨hU9, hZ9⟩ := hZ9
    obtain ⟨hU10, hZ9⟩ := hZ9
    obtain ⟨hU11, hZ9⟩ := hZ9
    obtain ⟨hU12, hZ9⟩ := hZ9
    obtain ⟨hU13, hZ9⟩ := hZ9
    obtain ⟨hU14, hZ9⟩ := hZ9
    obtain ⟨hU15, hR⟩ := hZ9
    have hF := hR.2.2.2.2.2.2.2.2.2.2.2.2.2.2.2.2.2.2.2.2.2.2.2.2.2.2.2.2.2.2.2.2.2.2.2.2.2.2.2.2.2.2.2.2.2.2.2.2.2.2.2.2.2.2.2.2.2.2.2.2.2.2.2.2.2.2.2.2.2.2.2.2.2.2.2.2.2.2.2.2.2.2.2.2.2.2.2.2.2.2.2.2.2.2.2.2.2.2.2.2.2
    have hp := hq.2
    rw [← hF] at hp
    refine ⟨hI2, ⟨fun i hi => ?_, fun i hi => ?_, ?_⟩, fun i hi => hun i (by simp only [List.mem_cons, List.not_mem_nil, or_false, not_or]; omega)⟩
    · by_cases hk4 : i = i4
      · rw [hk4]; refine ⟨_, _, _, hU14, hU15, ?_⟩; first | exact hp
      · exact iW_fr (hC.1 i hi) (hun _ (by simp only [List.mem_cons, List.not_mem_nil, or_false, not_or]; omega)) (hun _ (by simp only [List.mem_cons, List.not_mem_nil, or_false, not_or]; omega))
    · exact iD_fr (hC.2.1 i hi) (hun _ (by simp only [List.mem_cons, List.not_mem_nil, or_false, not_or]; omega)) (hun _ (by simp only [List.mem_cons, List.not_mem_nil, or_false, not_or]; omega)) (hun _ (by simp only [List.mem_cons, List.not_mem_nil, or_false, not_or]; omega))
    · exact iO_fr hC.2.2 (hun _ (by simp only [List.mem_cons, List.not_mem_nil, or_false, not_or]; omega)) (hun _ (by simp only [List.mem_cons, List.not_mem_nil, or_false, not_or]; omega)) (hun _ (by simp only [List.mem_cons, List.not_mem_nil, or_false, not_or]; omega))
  · rintro E u hZ9
    obtain ⟨c, hZ9⟩ := hZ9
    obtain ⟨hE, hZ9⟩ := hZ9
    obtain ⟨hc, hZ9⟩ := hZ9
    obtain ⟨hI2, hZ9⟩ := hZ9
    obtain ⟨hun, hZ9⟩ := hZ9
    obtain ⟨u0_0, hZ9⟩ := hZ9
    obtain ⟨u0_1, hZ9⟩ := hZ9
    obtain ⟨u1_0, hZ9⟩ := hZ9
    obtain ⟨u2_0, hZ9⟩ := hZ9
    obtain ⟨u2_1, hZ9⟩ := hZ9
    obtain ⟨u3_0, hZ9⟩ := hZ9
    obtain ⟨u4_0, hZ9⟩ := hZ9
    obtain ⟨u4_1, hZ9⟩ := hZ9
    obtain ⟨u5_0, hZ9⟩ := hZ9
    obtain ⟨u6_0, hZ9⟩ := hZ9
    obtain ⟨u6_1, hZ9⟩ := hZ9
    obtain ⟨u7_0, hZ9⟩ := hZ9
    obtain ⟨u8_0, hZ9⟩ := hZ9
    obtain ⟨u8_1, hZ9⟩ := hZ9
    obtain ⟨u9_0, hZ9⟩ := hZ9
    obtain ⟨u10_0, hZ9⟩ := hZ9
    obtain ⟨u10_1, hZ9⟩ := hZ9
    obtain ⟨u11_0, hZ9⟩ := hZ9
    obtain ⟨u12_0, hZ9⟩ := hZ9
    obtain ⟨u12_1, hZ9⟩ := hZ9
    obtain ⟨u13_0, hZ9⟩ := hZ9
    obtain ⟨u16_0, hZ9⟩ := hZ9
    obtain ⟨u16_1, hZ9⟩ := hZ9
    obtain ⟨u17_0, hZ9⟩ := hZ9
    obtain ⟨hU0, hZ9⟩ := hZ9
    obtain ⟨hU1, hZ9⟩ := hZ9
    obtain ⟨hU2, hZ9⟩ := hZ9
    obtain ⟨hU3, hZ9⟩ := hZ9
    obtain ⟨hU4, hZ9⟩ := hZ9
    obtain ⟨hU5, hZ9⟩ := hZ9
    obtain ⟨hU6, hZ9⟩ := hZ9
    obtain ⟨hU7, hZ9⟩ := hZ9
    obtain ⟨hU8, hZ9⟩ := hZ9
    obtain ⟨hU9, hZ9⟩ := hZ9
    obtain ⟨hU10, hZ9⟩ := hZ9
    obtain ⟨hU11, hZ9⟩ := hZ9
    obtain ⟨hU12, hZ9⟩ := hZ9
    obtain ⟨hU13, hZ9⟩ := hZ9
    obtain ⟨hU14, hZ9⟩ := hZ9
    obtain ⟨hU15, hF⟩ := hZ9
    have hp := hq.2
    rw [← hF] at hp
    have hk := K_NH_whole_bt (x2 := x2) (x3 := x3) (x4 := x4) (x5 := x5) (t0_0 := t0_0) (t0_1 := t0_1) (t1_0 := t1_0) (t2_0 := t2_0) (t2_1 := t2_1) (t3_0 := t3_0) (t4_0 := t4_0) (t4_1 := t4_1) (t5_0 := t5_0) (t6_0 := t6_0) (t6_1 := t6_1) (t7_0 := t7_0) (t8_0 := t8_0) (t8_1 := t8_1) (t9_0 := t9_0) (t10_0 := t10_0) (t10_1 := t10_1) (t11_0 := t11_0) (t12_0 := t12_0) (t12_1 := t12_1) (t13_0 := t13_0) (t14_0 := t14_0) (t14_1 := t14_1) (t15_0 := t15_0) (t16_0 := t16_0) (t16_1 := t16_1) (t17_0 := t17_0)
    rw [← hF] at hk
    replace hk : kC12 c := hk
    refine ⟨⟨c, hE, hk.resolve_left hc⟩, hI2, ⟨fun i hi => ?_, fun i hi => ?_, ?_⟩, fun i hi => hun i (by simp only [List.mem_cons, List.not_mem_nil, or_false, not_or]; omega)⟩
    · by_cases hk4 : i = i4
      · rw [hk4]; refine ⟨_, _, _, hU14, hU15, ?_⟩; first | exact hp
      · exact iW_fr (hC.1 i hi) (hun _ (by simp only [List.mem_cons, List.not_mem_nil, or_false, not_or]; omega)) (hun _ (by simp only [List.mem_cons, List.not_mem_nil, or_false, not_or]; omega))
    · exact iD_fr (hC.2.1 i hi) (hun _ (by simp only [List.mem_cons, List.not_mem_nil, or_false, not_or]; omega)) (hun _ (by simp only [List.mem_cons, List.not_mem_nil, or_false, not_or]; omega)) (hun _ (by simp only [List.mem_cons, List.not_mem_nil, or_false, not_or]; omega))
    · exact iO_fr hC.2.2 (hun _ (by simp only [List.mem_cons, List.not_mem_nil, or_false, not_or]; omega)) (hun _ (by simp only [List.mem_cons, List.not_mem_nil, or_false, not_or]; omega)) (hun _ (by simp only [List.mem_cons, List.not_mem_nil, or_false, not_or]; omega))
set_option maxRecDepth 100000 in
theorem CV_whole_abt (l : Launch) (D : va_G) (g : Nat → ClassId) (q : Nat → Nat) (ws : va_W) (x2 : Int32) (x3 : Int32) (x4 : Int32) (x5 : Int32) (i3 : Nat) (hi3 : i3 < 10) (e3 : x3.toNatClampNeg < 10 → i3 = x3.toNatClampNeg) (e4 : x4.toNatClampNeg < 10 → i3 = x4.toNatClampNeg) (e5 : x5.toNatClampNeg < 10 → i3 = x5.toNatClampNeg) (hlt : l.stackTraces = false) (hI : q_I (nsh g q) q ws) (hC : iC g q ws) : ∀ sz, q_Mx l y_NH_whole prog_1_method_8_code 7 none 9 4 24 D g [.ref (q 0), .int x2, .int x3, .int x4, .int x5] ws sz (va_Qv (fun u => iP g q ws u) (q_B D g (va_A ws sz)) (va_A ws sz)) (fun E u => (∃ c : Int32, E = qE c ∧ (c = 1 ∨ c = 2)) ∧ iP g q ws u) := by
  intro sz
  obtain ⟨t0_0, t0_1, hT0, bT0⟩ := q_bigO hI (n_b10 g q)
  obtain ⟨t1_0, hT1, bT1⟩ := n_ai hI (n_s11 g q)
  obtain ⟨t2_0, t2_1, hT2, bT2⟩ := q_bigO hI (n_b12 g q)
  obtain ⟨t3_0, hT3, bT3⟩ := n_ai hI (n_s13 g q)
  obtain ⟨t4_0, t4_1, hT4, bT4⟩ := q_bigO hI (n_b18 g q)
  obtain ⟨t5_0, hT5, bT5⟩ := n_ai hI (n_s19 g q)
  obtain ⟨t6_0, t6_1, hT6, bT6⟩ := q_bigO hI (n_b22 g q)
  obtain ⟨t7_0, hT7, bT7⟩ := n_ai hI (n_s23 g q)
  obtain ⟨t8_0, t8_1, hT8, bT8⟩ := q_bigO hI (n_b24 g q)
  obtain ⟨t9_0, hT9, bT9⟩ := n_ai hI (n_s25 g q)
  obtain ⟨t10_0, t10_1, hT10, bT10⟩ := q_bigO hI (n_b26 g q)
  obtain ⟨t11_0, hT11, bT11⟩ := n_ai hI (n_s27 g q)
  obtain ⟨t12_0, t12_1, hT12, bT12⟩ := q_bigO hI (n_b28 g q)
  obtain ⟨t13_0, hT13, bT13⟩ := n_ai hI (n_s29 g q)
  obtain ⟨t14_0, hZ9⟩ := hC.1 i3 hi3
  obtain ⟨t14_1, hZ9⟩ := hZ9
  obtain ⟨t15_0, hZ9⟩ := hZ9
  obtain ⟨hT14, hZ9⟩ := hZ9
  obtain ⟨hT15, hZ9⟩ := hZ9
  obtain ⟨vk3, hZ9⟩ := hZ9
  obtain ⟨hbk3, hBk3⟩ := hZ9
  have hq := T_whole_abt (x2 := x2) (x3 := x3) (x4 := x4) (x5 := x5) (t0_0 := t0_0) (t0_1 := t0_1) (t1_0 := t1_0) (t2_0 := t2_0) (t2_1 := t2_1) (t3_0 := t3_0) (t4_0 := t4_0) (t4_1 := t4_1) (t5_0 := t5_0) (t6_0 := t6_0) (t6_1 := t6_1) (t7_0 := t7_0) (t8_0 := t8_0) (t8_1 := t8_1) (t9_0 := t9_0) (t10_0 := t10_0) (t10_1 := t10_1) (t11_0 := t11_0) (t12_0 := t12_0) (t12_1 := t12_1) (t13_0 := t13_0) (t14_0 := t14_0) (t14_1 := t14_1) (t15_0 := t15_0) hbk3 hBk3
  refine q_MxV (X_NH_whole_abt l D g q ws x2 x3 x4 x5 (66 + 5 * i3) (n_w g q hi3) (by omega) (fun h => by have z := e3 h; omega) (fun h => by have z := e4 h; omega) (fun h => by have z := e5 h; omega) hlt hI t0_0 t0_1 hT0 t1_0 hT1 t2_0 t2_1 hT2 t3_0 hT3 t4_0 t4_1 hT4 t5_0 hT5 t6_0 t6_1 hT6 t7_0 hT7 t8_0 t8_1 hT8 t9_0 hT9 t10_0 t10_1 hT10 t11_0 hT11 t12_0 t12_1 hT12 t13_0 hT13 t14_0 t14_1 hT14 t15_0 hT15 ⟨trivial, hq.1⟩ sz) ?_ ?_
  · rintro u hZ9
    obtain ⟨hI2, hZ9⟩ := hZ9
    obtain ⟨hun, hZ9⟩ := hZ9
    obtain ⟨u0_0, hZ9⟩ := hZ9
    obtain ⟨u0_1, hZ9⟩ := hZ9
    obtain ⟨u1_0, hZ9⟩ := hZ9
    obtain ⟨u2_0, hZ9⟩ := hZ9
    obtain ⟨u2_1, hZ9⟩ := hZ9
    obtain ⟨u3_0, hZ9⟩ := hZ9
    obtain ⟨u4_0, hZ9⟩ := hZ9
    obtain ⟨u4_1, hZ9⟩ := hZ9
    obtain ⟨u5_0, hZ9⟩ := hZ9
    obtain ⟨u6_0, hZ9⟩ := hZ9
    obtain ⟨u6_1, hZ9⟩ := hZ9
    obtain ⟨u7_0, hZ9⟩ := hZ9
    obtain ⟨u8_0, hZ9⟩ := hZ9
    obtain ⟨u8_1, hZ9⟩ := hZ9
    obtain ⟨u9_0, hZ9⟩ := hZ9
    obtain ⟨u10_0, hZ9⟩ := hZ9
    obtain ⟨u10_1, hZ9⟩ := hZ9
    obtain ⟨u11_0, hZ9⟩ := hZ9
    obtain ⟨u12_0, hZ9⟩ := hZ9
    obtain ⟨u12_1, hZ9⟩ := hZ9
    obtain ⟨u13_0, hZ9⟩ := hZ9
    obtain ⟨u14_0, hZ9⟩ := hZ9
    obtain ⟨u14_1, hZ9⟩ := hZ9
    obtain ⟨u15_0, hZ9⟩ := hZ9
    obtain ⟨hU0, hZ9⟩ := hZ9
    obtain ⟨hU1, hZ9⟩ := hZ9
    obtain ⟨hU2, hZ9⟩ := hZ9
    obtain ⟨hU3, hZ9⟩ := hZ9
    obtain ⟨hU4, hZ9⟩ := hZ9
    obtain ⟨hU5, hZ9⟩ := hZ9
    obtain ⟨hU6, hZ9⟩ := hZ9
    obtain ⟨hU7, hZ9⟩ := hZ9
    obtain ⟨hU8, hZ9⟩ := hZ9
    obtain ⟨hU9, hZ9⟩ := hZ9
    obtain ⟨hU10, hZ9⟩ := hZ9
    obtain ⟨hU11, hZ9⟩ := hZ9
    obtain ⟨hU12, hZ9⟩ := hZ9
    obtain ⟨hU13, hZ9⟩ := hZ9
    obtain ⟨hU14, hZ9⟩ := hZ9
    obtain ⟨hU15, hR⟩ := hZ9
    have hF := hR.2.2.2.2.2.2.2.2.2.2.2.2.2.2.2.2.2.2.2.2.2.2.2.2.2.2.2.2.2.2.2.2.2.2.2.2.2.2.2.2.2.2.2.2.2.2.2.2.2.2.2.2.2.2.2.2.2.2.2.2.2.2.2.2.2.2.2.2.2.2.2.2.2.2.2.2.2.2.2.2.2.2.2.2.2.2.2.2.2.2.2.2.2.2.2.2.2.2
    have hp := hq.2
    rw [← hF] at hp
    refine ⟨hI2, ⟨fun i hi => ?_, fun i hi => ?_, ?_⟩, fun i hi => hun i (by simp only [List.mem_cons, List.not_mem_nil, or_false, not_or]; omega)⟩
    · by_cases hk3 : i = i3
      · rw [hk3]; refine ⟨_, _, _, hU14, hU15, ?_⟩; first | exact hp
      · exact iW_fr (hC.1 i hi) (hun _ (by simp only [List.mem_cons, List.not_mem_nil, or_false, not_or]; omega)) (hun _ (by simp only [List.mem_cons, List.not_mem_nil, or_false, not_or]; omega))
    · exact iD_fr (hC.2.1 i hi) (hun _ (by simp only [List.mem_cons, List.not_mem_nil, or_false, not_or]; omega)) (hun _ (by simp only [List.mem_cons, List.not_mem_nil, or_false, not_or]; omega)) (hun _ (by simp only [List.mem_cons, List.not_mem_nil, or_false, not_or]; omega))
    · exact iO_fr hC.2.2 (hun _ (by simp only [List.mem_cons, List.not_mem_nil, or_false, not_or]; omega)) (hun _ (by simp only [List.mem_cons, List.not_mem_nil, or_false, not_or]; omega)) (hun _ (by simp only [List.mem_cons, List.not_mem_nil, or_false, not_or]; omega))
  · rintro E u hZ9
    obtain ⟨c, hZ9⟩ := hZ9
    obtain ⟨hE, hZ9⟩ := hZ9
    obtain ⟨hc, hZ9⟩ := hZ9
    obtain ⟨hI2, hZ9⟩ := hZ9
    obtain ⟨hun, hZ9⟩ := hZ9
    obtain ⟨u0_0, hZ9⟩ := hZ9
    obtain ⟨u0_1, hZ9⟩ := hZ9
    obtain ⟨u1_0, hZ9⟩ := hZ9
    obtain ⟨u2_0, hZ9⟩ := hZ9
    obtain ⟨u2_1, hZ9⟩ := hZ9
    obtain ⟨u3_0, hZ9⟩ := hZ9
    obtain ⟨u4_0, hZ9⟩ := hZ9
    obtain ⟨u4_1, hZ9⟩ := hZ9
    obtain ⟨u5_0, hZ9⟩ := hZ9
    obtain ⟨u6_0, hZ9⟩ := hZ9
    obtain ⟨u6_1, hZ9⟩ := hZ9
    obtain ⟨u7_0, hZ9⟩ := hZ9
    obtain ⟨u8_0, hZ9⟩ := hZ9
    obtain ⟨u8_1, hZ9⟩ := hZ9
    obtain ⟨u9_0, hZ9⟩ := hZ9
    obtain ⟨u10_0, hZ9⟩ := hZ9
    obtain ⟨u10_1, hZ9⟩ := hZ9
    obtain ⟨u11_0, hZ9⟩ := hZ9
    obtain ⟨u12_0, hZ9⟩ := hZ9
    obtain ⟨u12_1, hZ9⟩ := hZ9
    obtain ⟨u13_0, hZ9⟩ := hZ9
    obtain ⟨u14_0, hZ9⟩ := hZ9
    obtain ⟨u14_1, hZ9⟩ := hZ9
    obtain ⟨u15_0, hZ9⟩ := hZ9
    obtain ⟨hU0, hZ9⟩ := hZ9
    obtain ⟨hU1, hZ9⟩ := hZ9
    obtain ⟨hU2, hZ9⟩ := hZ9
    obtain ⟨hU3, hZ9⟩ := hZ9
    obtain ⟨hU4, hZ9⟩ := hZ9
    obtain ⟨hU5, hZ9⟩ := hZ9
    obtain ⟨hU6, hZ9⟩ := hZ9
    obtain ⟨hU7, hZ9⟩ := hZ9
    obtain ⟨hU8, hZ9⟩ := hZ9
    obtain ⟨hU9, hZ9⟩ := hZ9
    obtain ⟨hU10, hZ9⟩ := hZ9
    obtain ⟨hU11, hZ9⟩ := hZ9
    obtain ⟨hU12, hZ9⟩ := hZ9
    obtain ⟨hU13, hZ9⟩ := hZ9
    obtain ⟨hU14, hZ9⟩ := hZ9
    obtain ⟨hU15, hF⟩ := hZ9
    have hp := hq.2
    rw [← hF] at hp
    have hk := K_NH_whole_abt (x2 := x2) (x3 := x3) (x4 := x4) (x5 := x5) (t0_0 := t0_0) (t0_1 := t0_1) (t1_0 := t1_0) (t2_0 := t2_0) (t2_1 := t2_1) (t3_0 := t3_0) (t4_0 := t4_0) (t4_1 := t4_1) (t5_0 := t5_0) (t6_0 := t6_0) (t6_1 := t6_1) (t7_0 := t7_0) (t8_0 := t8_0) (t8_1 := t8_1) (t9_0 := t9_0) (t10_0 := t10_0) (t10_1 := t10_1) (t11_0 := t11_0) (t12_0 := t12_0) (t12_1 := t12_1) (t13_0 := t13_0) (t14_0 := t14_0) (t14_1 := t14_1) (t15_0 := t15_0)
    rw [← hF] at hk
    replace hk : kC12 c := hk
    refine ⟨⟨c, hE, hk.resolve_left hc⟩, hI2, ⟨fun i hi => ?_, fun i hi => ?_, ?_⟩, fun i hi => hun i (by simp only [List.mem_cons, List.not_mem_nil, or_false, not_or]; omega)⟩
    · by_cases hk3 : i = i3
      · rw [hk3]; refine ⟨_, _, _, hU14, hU15, ?_⟩; first | exact hp
      · exact iW_fr (hC.1 i hi) (hun _ (by simp only [List.mem_cons, List.not_mem_nil, or_false, not_or]; omega)) (hun _ (by simp only [List.mem_cons, List.not_mem_nil, or_false, not_or]; omega))
    · exact iD_fr (hC.2.1 i hi) (hun _ (by simp only [List.mem_cons, List.not_mem_nil, or_false, not_or]; omega)) (hun _ (by simp only [List.mem_cons, List.not_mem_nil, or_false, not_or]; omega)) (hun _ (by simp only [List.mem_cons, List.not_mem_nil, or_false, not_or]; omega))
    · exact iO_fr hC.2.2 (hun _ (by simp only [List.mem_cons, List.not_mem_nil, or_false, not_or]; omega)) (hun _ (by simp only [List.mem_cons, List.not_mem_nil, or_false, not_or]; omega)) (hun _ (by simp only [List.mem_cons, List.not_mem_nil, or_false, not_or]; omega))

set_option maxRecDepth 100000 in
theorem CV_read (l : Launch) (D : va_G) (g : Nat → ClassId) (q : Nat → Nat) (ws : va_W) (x2 : Int32) (x3 : Int32) (x4 : Int32) (i3 : Nat) (hi3 : i3 < 10) (e3 : x3.toNatClampNeg < 10 → i3 = x3.toNatClampNeg) (hlt : l.stackTraces = false) (hI : q_I (nsh g q) q ws) (hC : iC g q ws) : ∀ sz, q_Mx l y_NH_read prog_1_method_4_code 5 (some .boolean) 9 4 24 D g [.ref (q 0), .int x2, .int x3, .int x4] ws sz (va_Qi (fun _ u => iP g q ws u) (q_B D g (va_A ws sz)) (va_A ws sz)) (fun E u => (∃ c : Int32, E = qE c ∧ (c = 1 ∨ c = 2)) ∧ iP g q ws u) := by
  intro sz
  obtain ⟨t0_0, t0_1, hT0, bT0⟩ := n_o30 hI
  obtain ⟨t1_0, hZ9⟩ := n_o38 hI
  obtain ⟨t1_1, hZ9⟩ := hZ9
  obtain ⟨t1_2, hZ9⟩ := hZ9
  obtain ⟨t1_3, hZ9⟩ := hZ9
  obtain ⟨t1_4, hZ9⟩ := hZ9
  obtain ⟨t1_5, hZ9⟩ := hZ9
  obtain ⟨t1_6, hZ9⟩ := hZ9
  obtain ⟨t1_7, hZ9⟩ := hZ9
  obtain ⟨t1_8, hZ9⟩ := hZ9
  obtain ⟨t1_9, hZ9⟩ := hZ9
  obtain ⟨hT1, bT1⟩ := hZ9
  obtain ⟨t2_0, hT2, bT2⟩ := n_shO hI (n_h1 g q)
  obtain ⟨t3_0, hT3⟩ := n_al hI (n_s2 g q)
  obtain ⟨t4_0, t4_1, hT4, bT4⟩ := q_bigO hI (n_b10 g q)
  obtain ⟨t5_0, hT5, bT5⟩ := n_ai hI (n_s11 g q)
  obtain ⟨t6_0, t6_1, hT6, bT6⟩ := q_bigO hI (n_b22 g q)
  obtain ⟨t7_0, hT7, bT7⟩ := n_ai hI (n_s23 g q)
  obtain ⟨t8_0, t8_1, hT8, bT8⟩ := q_bigO hI (n_b24 g q)
  obtain ⟨t9_0, hT9, bT9⟩ := n_ai hI (n_s25 g q)
  obtain ⟨t10_0, t10_1, hT10, bT10⟩ := q_bigO hI (n_b12 g q)
  obtain ⟨t11_0, hT11, bT11⟩ := n_ai hI (n_s13 g q)
  obtain ⟨t12_0, t12_1, hT12, bT12⟩ := q_bigO hI (n_b20 g q)
  obtain ⟨t13_0, hT13, bT13⟩ := n_ai hI (n_s21 g q)
  obtain ⟨t14_0, hT14⟩ := n_al hI (n_s7 g q)
  obtain ⟨t15_0, hT15⟩ := n_al hI (n_s8 g q)
  obtain ⟨t16_0, hZ9⟩ := hC.1 i3 hi3
  obtain ⟨t16_1, hZ9⟩ := hZ9
  obtain ⟨t17_0, hZ9⟩ := hZ9
  obtain ⟨hT16, hZ9⟩ := hZ9
  obtain ⟨hT17, hZ9⟩ := hZ9
  obtain ⟨vk3, hZ9⟩ := hZ9
  obtain ⟨hbk3, hBk3⟩ := hZ9
  obtain ⟨t18_0, hZ9⟩ := hC.2.1 i3 hi3
  obtain ⟨t18_1, hZ9⟩ := hZ9
  obtain ⟨t19_0, hZ9⟩ := hZ9
  obtain ⟨t19_1, hZ9⟩ := hZ9
  obtain ⟨t20_0, hZ9⟩ := hZ9
  obtain ⟨hT18, hZ9⟩ := hZ9
  obtain ⟨hT19, hZ9⟩ := hZ9
  obtain ⟨hT20, hZ9⟩ := hZ9
  obtain ⟨vd3, hbd3⟩ := hZ9
  have hq := T_read (x2 := x2) (x3 := x3) (x4 := x4) (t0_0 := t0_0) (t0_1 := t0_1) (t1_0 := t1_0) (t1_1 := t1_1) (t1_2 := t1_2) (t1_3 := t1_3) (t1_4 := t1_4) (t1_5 := t1_5) (t1_6 := t1_6) (t1_7 := t1_7) (t1_8 := t1_8) (t1_9 := t1_9) (t2_0 := t2_0) (t3_0 := t3_0) (t4_0 := t4_0) (t4_1 := t4_1) (t5_0 := t5_0) (t6_0 := t6_0) (t6_1 := t6_1) (t7_0 := t7_0) (t8_0 := t8_0) (t8_1 := t8_1) (t9_0 := t9_0) (t10_0 := t10_0) (t10_1 := t10_1) (t11_0 := t11_0) (t12_0 := t12_0) (t12_1 := t12_1) (t13_0 := t13_0) (t14_0 := t14_0) (t15_0 := t15_0) (t16_0 := t16_0) (t16_1 := t16_1) (t17_0 := t17_0) (t18_0 := t18_0) (t18_1 := t18_1) (t19_0 := t19_0) (t19_1 := t19_1) (t20_0 := t20_0) ⟨_, hbk3, hBk3⟩ ⟨_, hbd3⟩ (by first | exact bT2 | exact bT2.1 | exact bT2.2 | exact bT2.2.1 | exact bT2.2.2 | exact bT2.1.1) (by first | exact bT2 | exact bT2.1 | exact bT2.2 | exact bT2.2.1 | exact bT2.2.2 | exact bT2.1.1) (by first | exact bT1 | exact bT1.1 | exact bT1.2 | exact bT1.2.1 | exact bT1.2.2 | exact bT1.1.1)
  refine q_MxI (X_NH_read l D g q ws x2 x3 x4 (66 + 5 * i3) (n_w g q hi3) (by omega) (fun h => by have z := e3 h; omega) (68 + 5 * i3) (n_d g q hi3) (by omega) (fun h => by have z := e3 h; omega) (by omega) (by omega) (by omega) (by omega) hlt hI t0_0 t0_1 hT0 t1_0 t1_1 t1_2 t1_3 t1_4 t1_5 t1_6 t1_7 t1_8 t1_9 hT1 t2_0 hT2 t3_0 hT3 t4_0 t4_1 hT4 t5_0 hT5 t6_0 t6_1 hT6 t7_0 hT7 t8_0 t8_1 hT8 t9_0 hT9 t10_0 t10_1 hT10 t11_0 hT11 t12_0 t12_1 hT12 t13_0 hT13 t14_0 hT14 t15_0 hT15 t16_0 t16_1 hT16 t17_0 hT17 t18_0 t18_1 hT18 t19_0 t19_1 hT19 t20_0 hT20 ⟨trivial, hq.1⟩ sz) ?_ ?_
  · rintro r u hZ9
    obtain ⟨hI2, hZ9⟩ := hZ9
    obtain ⟨hun, hZ9⟩ := hZ9
    obtain ⟨u1_0, hZ9⟩ := hZ9
    obtain ⟨u1_1, hZ9⟩ := hZ9
    obtain ⟨u1_2, hZ9⟩ := hZ9
    obtain ⟨u1_3, hZ9⟩ := hZ9
    obtain ⟨u1_4, hZ9⟩ := hZ9
    obtain ⟨u1_5, hZ9⟩ := hZ9
    obtain ⟨u1_6, hZ9⟩ := hZ9
    obtain ⟨u1_7, hZ9⟩ := hZ9
    obtain ⟨u1_8, hZ9⟩ := hZ9
    obtain ⟨u1_9, hZ9⟩ := hZ9
    obtain ⟨u2_0, hZ9⟩ := hZ9
    obtain ⟨u4_0, hZ9⟩ := hZ9
    obtain ⟨u4_1, hZ9⟩ := hZ9
    obtain ⟨u5_0, hZ9⟩ := hZ9
    obtain ⟨u6_0, hZ9⟩ := hZ9
    obtain ⟨u6_1, hZ9⟩ := hZ9
    obtain ⟨u7_0, hZ9⟩ := hZ9
    obtain ⟨u8_0, hZ9⟩ := hZ9
    obtain ⟨u8_1, hZ9⟩ := hZ9
    obtain ⟨u9_0, hZ9⟩ := hZ9
    obtain ⟨u10_0, hZ9⟩ := hZ9
    obtain ⟨u10_1, hZ9⟩ := hZ9
    obtain ⟨u11_0, hZ9⟩ := hZ9
    obtain ⟨u12_0, hZ9⟩ := hZ9
    obtain ⟨u12_1, hZ9⟩ := hZ9
    obtain ⟨u13_0, hZ9⟩ := hZ9
    obtain ⟨u14_0, hZ9⟩ := hZ9
    obtain ⟨u15_0, hZ9⟩ := hZ9
    obtain ⟨u16_0, hZ9⟩ := hZ9
    obtain ⟨u16_1, hZ9⟩ := hZ9
    obtain ⟨u17_0, hZ9⟩ := hZ9
    obtain ⟨u18_0, hZ9⟩ := hZ9
    obtain ⟨u18_1, hZ9⟩ := hZ9
    obtain ⟨u19_0, hZ9⟩ := hZ9
    obtain ⟨u19_1, hZ9⟩ := hZ9
    obtain ⟨u20_0, hZ9⟩ := hZ9
    obtain ⟨hU0, hZ9⟩ := hZ9
    obtain ⟨hU1, hZ9⟩ := hZ9
    obtain ⟨hU2, hZ9⟩ := hZ9
    obtain ⟨hU3, hZ9⟩ := hZ9
    obtain ⟨hU4, hZ9⟩ := hZ9
    obtain ⟨hU5, hZ9⟩ := hZ9
    obtain ⟨hU6, hZ9⟩ := hZ9
    obtain ⟨hU7, hZ9⟩ := hZ9
    obtain ⟨hU8, hZ9⟩ := hZ9
    obtain ⟨hU9, hZ9⟩ := hZ9
    obtain ⟨hU10, hZ9⟩ := hZ9
    obtain ⟨hU11, hZ9⟩ := hZ9
    obtain ⟨hU12, hZ9⟩ := hZ9
    obtain ⟨hU13, hZ9⟩ := hZ9
    obtain ⟨hU14, hZ9⟩ := hZ9
    obtain ⟨hU15, hZ9⟩ := hZ9
    obtain ⟨hU16, hZ9⟩ := hZ9
    obtain ⟨hU17, hZ9⟩ := hZ9
    obtain ⟨hU18, hR⟩ := hZ9
    have hF := hR.2.2.2.2.2.2.2.2.2.2.2.2.2.2.2.2.2.2.2.2.2.2.2.2.2.2.2.2.2.2.2.2.2.2.2.2.2.2.2.2.2.2.2
    have hp := hq.2
    rw [← hF] at hp
    refine ⟨hI2, ⟨fun i hi => ?_, fun i hi => ?_, ?_⟩, fun i hi => hun i (by simp only [List.mem_cons, List.not_mem_nil, or_false, not_or]; omega)⟩
    · by_cases hk3 : i = i3
      · rw [hk3]; refine ⟨_, _, _, hU14, hU15, ?_⟩; first | exact hp.1
      · exact iW_fr (hC.1 i hi) (hun _ (by simp only [List.mem_cons, List.not_mem_nil, or_false, not_or]; omega)) (hun _ (by simp only [List.mem_cons, List.not_mem_nil, or_false, not_or]; omega))
    · by_cases hd3 : i = i3
      · rw [hd3]; refine ⟨_, _, _, _, _, hU16, hU17, hU18, ?_⟩; first | exact hp.2
      · exact iD_fr (hC.2.1 i hi) (hun _ (by simp only [List.mem_cons, List.not_mem_nil, or_false, not_or]; omega)) (hun _ (by simp only [List.mem_cons, List.not_mem_nil, or_false, not_or]; omega)) (hun _ (by simp only [List.mem_cons, List.not_mem_nil, or_false, not_or]; omega))
    · exact iO_fr hC.2.2 (hun _ (by simp only [List.mem_cons, List.not_mem_nil, or_false, not_or]; omega)) (hun _ (by simp only [List.mem_cons, List.not_mem_nil, or_false, not_or]; omega)) (hun _ (by simp only [List.mem_cons, List.not_mem_nil, or_false, not_or]; omega))
  · rintro E u hZ9
    obtain ⟨c, hZ9⟩ := hZ9
    obtain ⟨hE, hZ9⟩ := hZ9
    obtain ⟨hc, hZ9⟩ := hZ9
    obtain ⟨hI2, hZ9⟩ := hZ9
    obtain ⟨hun, hZ9⟩ := hZ9
    obtain ⟨u1_0, hZ9⟩ := hZ9
    obtain ⟨u1_1, hZ9⟩ := hZ9
    obtain ⟨u1_2, hZ9⟩ := hZ9
    obtain ⟨u1_3, hZ9⟩ := hZ9
    obtain ⟨u1_4, hZ9⟩ := hZ9
    obtain ⟨u1_5, hZ9⟩ := hZ9
    obtain ⟨u1_6, hZ9⟩ := hZ9
    obtain ⟨u1_7, hZ9⟩ := hZ9
    obtain ⟨u1_8, hZ9⟩ := hZ9
    obtain ⟨u1_9, hZ9⟩ := hZ9
    obtain ⟨u2_0, hZ9⟩ := hZ9
    obtain ⟨u4_0, hZ9⟩ := hZ9
    obtain ⟨u4_1, hZ9⟩ := hZ9
    obtain ⟨u5_0, hZ9⟩ := hZ9
    obtain ⟨u6_0, hZ9⟩ := hZ9
    obtain ⟨u6_1, hZ9⟩ := hZ9
    obtain ⟨u7_0, hZ9⟩ := hZ9
    obtain ⟨u8_0, hZ9⟩ := hZ9
    obtain ⟨u8_1, hZ9⟩ := hZ9
    obtain ⟨u9_0, hZ9⟩ := hZ9
    obtain ⟨u10_0, hZ9⟩ := hZ9
    obtain ⟨u10_1, hZ9⟩ := hZ9
    obtain ⟨u11_0, hZ9⟩ := hZ9
    obtain ⟨u12_0, hZ9⟩ := hZ9
    obtain ⟨u12_1, hZ9⟩ := hZ9
    obtain ⟨u13_0, hZ9⟩ := hZ9
    obtain ⟨u14_0, hZ9⟩ := hZ9
    obtain ⟨u15_0, hZ9⟩ := hZ9
    obtain ⟨u16_0, hZ9⟩ := hZ9
    obtain ⟨u16_1, hZ9⟩ := hZ9
    obtain ⟨u17_0, hZ9⟩ := hZ9
    obtain ⟨u18_0, hZ9⟩ := hZ9
    obtain ⟨u18_1, hZ9⟩ := hZ9
    obtain ⟨u19_0, hZ9⟩ := hZ9
    obtain ⟨u19_1, hZ9⟩ := hZ9
    obtain ⟨u20_0, hZ9⟩ := hZ9
    obtain ⟨hU0, hZ9⟩ := hZ9
    obtain ⟨hU1, hZ9⟩ := hZ9
    obtain ⟨hU2, hZ9⟩ := hZ9
    obtain ⟨hU3, hZ9⟩ := hZ9
    obtain ⟨hU4, hZ9⟩ := hZ9
    obtain ⟨hU5, hZ9⟩ := hZ9
    obtain ⟨hU6, hZ9⟩ := hZ9
    obtain ⟨hU7, hZ9⟩ := hZ9
    obtain ⟨hU8, hZ9⟩ := hZ9
    obtain ⟨hU9, hZ9⟩ := hZ9
    obtain ⟨hU10, hZ9⟩ := hZ9
    obtain ⟨hU11, hZ9⟩ := hZ9
    obtain ⟨hU12, hZ9⟩ := hZ9
    obtain ⟨hU13, hZ9⟩ := hZ9
    obtain ⟨hU14, hZ9⟩ := hZ9
    obtain ⟨hU15, hZ9⟩ := hZ9
    obtain ⟨hU16, hZ9⟩ := hZ9
    obtain ⟨hU17, hZ9⟩ := hZ9
    obtain ⟨hU18, hF⟩ := hZ9
    have hp := hq.2
    rw [← hF] at hp
    have hk := K_NH_read (x2 := x2) (x3 := x3) (x4 := x4) (t0_0 := t0_0) (t0_1 := t0_1) (t1_0 := t1_0) (t1_1 := t1_1) (t1_2 := t1_2) (t1_3 := t1_3) (t1_4 := t1_4) (t1_5 := t1_5) (t1_6 := t1_6) (t1_7 := t1_7) (t1_8 := t1_8) (t1_9 := t1_9) (t2_0 := t2_0) (t3_0 := t3_0) (t4_0 := t4_0) (t4_1 := t4_1) (t5_0 := t5_0) (t6_0 := t6_0) (t6_1 := t6_1) (t7_0 := t7_0) (t8_0 := t8_0) (t8_1 := t8_1) (t9_0 := t9_0) (t10_0 := t10_0) (t10_1 := t10_1) (t11_0 := t11_0) (t12_0 := t12_0) (t12_1 := t12_1) (t13_0 := t13_0) (t14_0 := t14_0) (t15_0 := t15_0) (t16_0 := t16_0) (t16_1 := t16_1) (t17_0 := t17_0) (t18_0 := t18_0) (t18_1 := t18_1) (t19_0 := t19_0) (t19_1 := t19_1) (t20_0 := t20_0)
    rw [← hF] at hk
    replace hk : kC12 c := hk
    refine ⟨⟨c, hE, hk.resolve_left hc⟩, hI2, ⟨fun i hi => ?_, fun i hi => ?_, ?_⟩, fun i hi => hun i (by simp only [List.mem_cons, List.not_mem_nil, or_false, not_or]; omega)⟩
    · by_cases hk3 : i = i3
      · rw [hk3]; refine ⟨_, _, _, hU14, hU15, ?_⟩; first | exact hp.1
      · exact iW_fr (hC.1 i hi) (hun _ (by simp only [List.mem_cons, List.not_mem_nil, or_false, not_or]; omega)) (hun _ (by simp only [List.mem_cons, List.not_mem_nil, or_false, not_or]; omega))
    · by_cases hd3 : i = i3
      · rw [hd3]; refine ⟨_, _, _, _, _, hU16, hU17, hU18, ?_⟩; first | exact hp.2
      · exact iD_fr (hC.2.1 i hi) (hun _ (by simp only [List.mem_cons, List.not_mem_nil, or_false, not_or]; omega)) (hun _ (by simp only [List.mem_cons, List.not_mem_nil, or_false, not_or]; omega)) (hun _ (by simp only [List.mem_cons, List.not_mem_nil, or_false, not_or]; omega))
    · exact iO_fr hC.2.2 (hun _ (by simp only [List.mem_cons, List.not_mem_nil, or_false, not_or]; omega)) (hun _ (by simp only [List.mem_cons, List.not_mem_nil, or_false, not_or]; omega)) (hun _ (by simp only [List.mem_cons, List.not_mem_nil, or_false, not_or]; omega))
set_option maxRecDepth 100000 in
theorem CV_shape (l : Launch) (D : va_G) (g : Nat → ClassId) (q : Nat → Nat) (ws : va_W) (x2 : Int32) (x3 : Int32) (x4 : Int32) (x5 : Int32) (x6 : Int32) (i3 : Nat) (hi3 : i3 < 10) (i4 : Nat) (hi4 : i4 < 10) (e3 : x3.toNatClampNeg < 10 → i3 = x3.toNatClampNeg) (e4 : x4.toNatClampNeg < 10 → i4 = x4.toNatClampNeg) (hlt : l.stackTraces = false) (hI : q_I (nsh g q) q ws) (hC : iC g q ws) : ∀ sz, q_Mx l y_NH_shape prog_1_method_15_code 7 none 9 5 30 D g [.ref (q 0), .int x2, .int x3, .int x4, .int x5, .int x6] ws sz (va_Qv (fun u => iP g q ws u) (q_B D g (va_A ws sz)) (va_A ws sz)) (fun E u => (∃ c : Int32, E = qE c ∧ (c = 1 ∨ c = 2)) ∧ iP g q ws u) := by
  intro sz
  obtain ⟨t0_0, t0_1, hT0, bT0⟩ := n_o30 hI
  obtain ⟨t1_0, hZ9⟩ := hC.2.2
  obtain ⟨t1_1, hZ9⟩ := hZ9
  obtain ⟨t2_0, hZ9⟩ := hZ9
  obtain ⟨t2_1, hZ9⟩ := hZ9
  obtain ⟨t3_0, hZ9⟩ := hZ9
  obtain ⟨hT1, hZ9⟩ := hZ9
  obtain ⟨hT2, hZ9⟩ := hZ9
  obtain ⟨hT3, h1⟩ := hZ9
  obtain ⟨t4_0, t4_1, hT4, bT4⟩ := q_bigO hI (n_b10 g q)
  obtain ⟨t5_0, hT5, bT5⟩ := n_ai hI (n_s11 g q)
  obtain ⟨t6_0, t6_1, hT6, bT6⟩ := q_bigO hI (n_b12 g q)
  obtain ⟨t7_0, hT7, bT7⟩ := n_ai hI (n_s13 g q)
  obtain ⟨t8_0, t8_1, hT8, bT8⟩ := q_bigO hI (n_b14 g q)
  obtain ⟨t9_0, hT9, bT9⟩ := n_ai hI (n_s15 g q)
  obtain ⟨t10_0, t10_1, hT10, bT10⟩ := q_bigO hI (n_b16 g q)
  obtain ⟨t11_0, hT11, bT11⟩ := n_ai hI (n_s17 g q)
  obtain ⟨t12_0, t12_1, hT12, bT12⟩ := q_bigO hI (n_b18 g q)
  obtain ⟨t13_0, hT13, bT13⟩ := n_ai hI (n_s19 g q)
  obtain ⟨t14_0, t14_1, hT14, bT14⟩ := q_bigO hI (n_b22 g q)
  obtain ⟨t15_0, hT15, bT15⟩ := n_ai hI (n_s23 g q)
  obtain ⟨t16_0, t16_1, hT16, bT16⟩ := q_bigO hI (n_b24 g q)
  obtain ⟨t17_0, hT17, bT17⟩ := n_ai hI (n_s25 g q)
  obtain ⟨t18_0, t18_1, hT18, bT18⟩ := q_bigO hI (n_b20 g q)
  obtain ⟨t19_0, hT19, bT19⟩ := n_ai hI (n_s21 g q)
  obtain ⟨t20_0, hZ9⟩ := hC.2.1 i3 hi3
  obtain ⟨t20_1, hZ9⟩ := hZ9
  obtain ⟨t21_0, hZ9⟩ := hZ9
  obtain ⟨t21_1, hZ9⟩ := hZ9
  obtain ⟨t22_0, hZ9⟩ := hZ9
  obtain ⟨hT20, hZ9⟩ := hZ9
  obtain ⟨hT21, hZ9⟩ := hZ9
  obtain ⟨hT22, hZ9⟩ := hZ9
  obtain ⟨vd3, hbd3⟩ := hZ9
  obtain ⟨t23_0, hZ9⟩ := hC.2.1 i4 hi4
  obtain ⟨t23_1, hZ9⟩ := hZ9
  obtain ⟨t24_0, hZ9⟩ := hZ9
  obtain ⟨t24_1, hZ9⟩ := hZ9
  obtain ⟨t25_0, hZ9⟩ := hZ9
  obtain ⟨hT23, hZ9⟩ := hZ9
  obtain ⟨hT24, hZ9⟩ := hZ9
  obtain ⟨hT25, hZ9⟩ := hZ9
  obtain ⟨vd4, hbd4⟩ := hZ9
  have hq := T_shape (x2 := x2) (x3 := x3) (x4 := x4) (x5 := x5) (x6 := x6) (t0_0 := t0_0) (t0_1 := t0_1) (t1_0 := t1_0) (t1_1 := t1_1) (t2_0 := t2_0) (t2_1 := t2_1) (t3_0 := t3_0) (t4_0 := t4_0) (t4_1 := t4_1) (t5_0 := t5_0) (t6_0 := t6_0) (t6_1 := t6_1) (t7_0 := t7_0) (t8_0 := t8_0) (t8_1 := t8_1) (t9_0 := t9_0) (t10_0 := t10_0) (t10_1 := t10_1) (t11_0 := t11_0) (t12_0 := t12_0) (t12_1 := t12_1) (t13_0 := t13_0) (t14_0 := t14_0) (t14_1 := t14_1) (t15_0 := t15_0) (t16_0 := t16_0) (t16_1 := t16_1) (t17_0 := t17_0) (t18_0 := t18_0) (t18_1 := t18_1) (t19_0 := t19_0) (t20_0 := t20_0) (t20_1 := t20_1) (t21_0 := t21_0) (t21_1 := t21_1) (t22_0 := t22_0) (t23_0 := t23_0) (t23_1 := t23_1) (t24_0 := t24_0) (t24_1 := t24_1) (t25_0 := t25_0) hbd3 h1 ⟨_, hbd4⟩
  refine q_MxV (X_NH_shape l D g q ws x2 x3 x4 x5 x6 (68 + 5 * i3) (n_d g q hi3) (by omega) (fun h => by have z := e3 h; omega) (68 + 5 * i4) (n_d g q hi4) (by omega) (fun h => by have z := e4 h; omega) hlt hI t0_0 t0_1 hT0 t1_0 t1_1 hT1 t2_0 t2_1 hT2 t3_0 hT3 t4_0 t4_1 hT4 t5_0 hT5 t6_0 t6_1 hT6 t7_0 hT7 t8_0 t8_1 hT8 t9_0 hT9 t10_0 t10_1 hT10 t11_0 hT11 t12_0 t12_1 hT12 t13_0 hT13 t14_0 t14_1 hT14 t15_0 hT15 t16_0 t16_1 hT16 t17_0 hT17 t18_0 t18_1 hT18 t19_0 hT19 t20_0 t20_1 hT20 t21_0 t21_1 hT21 t22_0 hT22 t23_0 t23_1 hT23 t24_0 t24_1 hT24 t25_0 hT25 ⟨trivial, hq.1⟩ sz) ?_ ?_
  · rintro u hZ9
    obtain ⟨hI2, hZ9⟩ := hZ9
    obtain ⟨hun, hZ9⟩ := hZ9
    obtain ⟨u0_0, hZ9⟩ := hZ9
    obtain ⟨u0_1, hZ9⟩ := hZ9
    obtain ⟨u2_0, hZ9⟩ := hZ9
    obtain ⟨u2_1, hZ9⟩ := hZ9
    obtain ⟨u3_0, hZ9⟩ := hZ9
    obtain ⟨u4_0, hZ9⟩ := hZ9
    obtain ⟨u4_1, hZ9⟩ := hZ9
    obtain ⟨u5_0, hZ9⟩ := hZ9
    obtain ⟨u6_0, hZ9⟩ := hZ9
    obtain ⟨u6_1, hZ9⟩ := hZ9
    obtain ⟨u7_0, hZ9⟩ := hZ9
    obtain ⟨u8_0, hZ9⟩ := hZ9
    obtain ⟨u8_1, hZ9⟩ := hZ9
    obtain ⟨u9_0, hZ9⟩ := hZ9
    obtain ⟨u10_0, hZ9⟩ := hZ9
    obtain ⟨u10_1, hZ9⟩ := hZ9
    obtain ⟨u11_0, hZ9⟩ := hZ9
    obtain ⟨u12_0, hZ9⟩ := hZ9
    obtain ⟨u12_1, hZ9⟩ := hZ9
    obtain ⟨u13_0, hZ9⟩ := hZ9
    obtain ⟨u14_0, hZ9⟩ := hZ9
    obtain ⟨u14_1, hZ9⟩ := hZ9
    obtain ⟨u15_0, hZ9⟩ := hZ9
    obtain ⟨u16_0, hZ9⟩ := hZ9
    obtain ⟨u16_1, hZ9⟩ := hZ9
    obtain ⟨u17_0, hZ9⟩ := hZ9
    obtain ⟨u18_0, hZ9⟩ := hZ9
    obtain ⟨u18_1, hZ9⟩ := hZ9
    obtain ⟨u19_0, hZ9⟩ := hZ9
    obtain ⟨u23_0, hZ9⟩ := hZ9
    obtain ⟨u23_1, hZ9⟩ := hZ9
    obtain ⟨u24_0, hZ9⟩ := hZ9
    obtain ⟨u24_1, hZ9⟩ := hZ9
    obtain ⟨u25_0, hZ9⟩ := hZ9
    obtain ⟨hU0, hZ9⟩ := hZ9
    obtain ⟨hU1, hZ9⟩ := hZ9
    obtain ⟨hU2, hZ9⟩ := hZ9
    obtain ⟨hU3, hZ9⟩ := hZ9
    obtain ⟨hU4, hZ9⟩ := hZ9
    obtain ⟨hU5, hZ9⟩ := hZ9
    obtain ⟨hU6, hZ9⟩ := hZ9
    obtain ⟨hU7, hZ9⟩ := hZ9
    obtain ⟨hU8, hZ9⟩ := hZ9
    obtain ⟨hU9, hZ9⟩ := hZ9
    obtain ⟨hU10, hZ9⟩ := hZ9
    obtain ⟨hU11, hZ9⟩ := hZ9
    obtain ⟨hU12, hZ9⟩ := hZ9
    obtain ⟨hU13, hZ9⟩ := hZ9
    obtain ⟨hU14, hZ9⟩ := hZ9
    obtain ⟨hU15, hZ9⟩ := hZ9
    obtain ⟨hU16, hZ9⟩ := hZ9
    obtain ⟨hU17, hZ9⟩ := hZ9
    obtain ⟨hU18, hZ9⟩ := hZ9
    obtain ⟨hU19, hZ9⟩ := hZ9
    obtain ⟨hU20, hZ9⟩ := hZ9
    obtain ⟨hU21, hR⟩ := hZ9
    have hF := hR.2.2.2.2.2.2.2.2.2.2.2.2.2.2.2.2.2.2.2.2.2.2.2.2.2.2.2.2.2.2.2.2.2.2.2.2.2.2.2.2.2.2.2.2.2.2.2.2.2.2.2.2.2.2.2.2.2.2.2.2.2.2.2.2.2.2.2.2.2.2.2.2.2.2.2.2.2.2.2.2.2.2.2.2.2.2.2.2.2.2.2.2.2.2.2.2.2.2.2.2.2.2.2.2.2.2.2.2.2
    have hp := hq.2
    rw [← hF] at hp
    refine ⟨hI2, ⟨fun i hi => ?_, fun i hi => ?_, ?_⟩, fun i hi => hun i (by simp only [List.mem_cons, List.not_mem_nil, or_false, not_or]; omega)⟩
    · exact iW_fr (hC.1 i hi) (hun _ (by simp only [List.mem_cons, List.not_mem_nil, or_false, not_or]; omega)) (hun _ (by simp only [List.mem_cons, List.not_mem_nil, or_false, not_or]; omega))
    · by_cases hd4 : i = i4
      · rw [hd4]; refine ⟨_, _, _, _, _, hU19, hU20, hU21, ?_⟩; first | exact hp.1
      · exact iD_fr (hC.2.1 i hi) (hun _ (by simp only [List.mem_cons, List.not_mem_nil, or_false, not_or]; omega)) (hun _ (by simp only [List.mem_cons, List.not_mem_nil, or_false, not_or]; omega)) (hun _ (by simp only [List.mem_cons, List.not_mem_nil, or_false, not_or]; omega))
    · refine ⟨_, _, _, _, _, ((hun _ (by simp only [List.mem_cons, List.not_mem_nil, or_false, not_or]; omega)).trans hT1), hU1, hU2, ?_⟩; first | exact hp.2 | exact hp.1
  · rintro E u hZ9
    obtain ⟨c, hZ9⟩ := hZ9
    obtain ⟨hE, hZ9⟩ := hZ9
    obtain ⟨hc, hZ9⟩ := hZ9
    obtain ⟨hI2, hZ9⟩ := hZ9
    obtain ⟨hun, hZ9⟩ := hZ9
    obtain ⟨u0_0, hZ9⟩ := hZ9
    obtain ⟨u0_1, hZ9⟩ := hZ9
    obtain ⟨u2_0, hZ9⟩ := hZ9
    obtain ⟨u2_1, hZ9⟩ := hZ9
    obtain ⟨u3_0, hZ9⟩ := hZ9
    obtain ⟨u4_0, hZ9⟩ := hZ9
    obtain ⟨u4_1, hZ9⟩ := hZ9
    obtain ⟨u5_0, hZ9⟩ := hZ9
    obtain ⟨u6_0, hZ9⟩ := hZ9
    obtain ⟨u6_1, hZ9⟩ := hZ9
    obtain ⟨u7_0, hZ9⟩ := hZ9
    obtain ⟨u8_0, hZ9⟩ := hZ9
    obtain ⟨u8_1, hZ9⟩ := hZ9
    obtain ⟨u9_0, hZ9⟩ := hZ9
    obtain ⟨u10_0, hZ9⟩ := hZ9
    obtain ⟨u10_1, hZ9⟩ := hZ9
    obtain ⟨u11_0, hZ9⟩ := hZ9
    obtain ⟨u12_0, hZ9⟩ := hZ9
    obtain ⟨u12_1, hZ9⟩ := hZ9
    obtain ⟨u13_0, hZ9⟩ := hZ9
    obtain ⟨u14_0, hZ9⟩ := hZ9
    obtain ⟨u14_1, hZ9⟩ := hZ9
    obtain ⟨u15_0, hZ9⟩ := hZ9
    obtain ⟨u16_0, hZ9⟩ := hZ9
    obtain ⟨u16_1, hZ9⟩ := hZ9
    obtain ⟨u17_0, hZ9⟩ := hZ9
    obtain ⟨u18_0, hZ9⟩ := hZ9
    obtain ⟨u18_1, hZ9⟩ := hZ9
    obtain ⟨u19_0, hZ9⟩ := hZ9
    obtain ⟨u23_0, hZ9⟩ := hZ9
    obtain ⟨u23_1, hZ9⟩ := hZ9
    obtain ⟨u24_0, hZ9⟩ := hZ9
    obtain ⟨u24_1, hZ9⟩ := hZ9
    obtain ⟨u25_0, hZ9⟩ := hZ9
    obtain ⟨hU0, hZ9⟩ := hZ9
    obtain ⟨hU1, hZ9⟩ := hZ9
    obtain ⟨hU2, hZ9⟩ := hZ9
    obtain ⟨hU3, hZ9⟩ := hZ9
    obtain ⟨hU4, hZ9⟩ := hZ9
    obtain ⟨hU5, hZ9⟩ := hZ9
    obtain ⟨hU6, hZ9⟩ := hZ9
    obtain ⟨hU7, hZ9⟩ := hZ9
    obtain ⟨hU8, hZ9⟩ := hZ9
    obtain ⟨hU9, hZ9⟩ := hZ9
    obtain ⟨hU10, hZ9⟩ := hZ9
    obtain ⟨hU11, hZ9⟩ := hZ9
    obtain ⟨hU12, hZ9⟩ := hZ9
    obtain ⟨hU13, hZ9⟩ := hZ9
    obtain ⟨hU14, hZ9⟩ := hZ9
    obtain ⟨hU15, hZ9⟩ := hZ9
    obtain ⟨hU16, hZ9⟩ := hZ9
    obtain ⟨hU17, hZ9⟩ := hZ9
    obtain ⟨hU18, hZ9⟩ := hZ9
    obtain ⟨hU19, hZ9⟩ := hZ9
    obtain ⟨hU20, hZ9⟩ := hZ9
    obtain ⟨hU21, hF⟩ := hZ9
    have hp := hq.2
    rw [← hF] at hp
    have hk := K_NH_shape (x2 := x2) (x3 := x3) (x4 := x4) (x5 := x5) (x6 := x6) (t0_0 := t0_0) (t0_1 := t0_1) (t1_0 := t1_0) (t1_1 := t1_1) (t2_0 := t2_0) (t2_1 := t2_1) (t3_0 := t3_0) (t4_0 := t4_0) (t4_1 := t4_1) (t5_0 := t5_0) (t6_0 := t6_0) (t6_1 := t6_1) (t7_0 := t7_0) (t8_0 := t8_0) (t8_1 := t8_1) (t9_0 := t9_0) (t10_0 := t10_0) (t10_1 := t10_1) (t11_0 := t11_0) (t12_0 := t12_0) (t12_1 := t12_1) (t13_0 := t13_0) (t14_0 := t14_0) (t14_1 := t14_1) (t15_0 := t15_0) (t16_0 := t16_0) (t16_1 := t16_1) (t17_0 := t17_0) (t18_0 := t18_0) (t18_1 := t18_1) (t19_0 := t19_0) (t20_0 := t20_0) (t20_1 := t20_1) (t21_0 := t21_0) (t21_1 := t21_1) (t22_0 := t22_0) (t23_0 := t23_0) (t23_1 := t23_1) (t24_0 := t24_0) (t24_1 := t24_1) (t25_0 := t25_0)
    rw [← hF] at hk
    replace hk : kC12 c := hk
    refine ⟨⟨c, hE, hk.resolve_left hc⟩, hI2, ⟨fun i hi => ?_, fun i hi => ?_, ?_⟩, fun i hi => hun i (by simp only [List.mem_cons, List.not_mem_nil, or_false, not_or]; omega)⟩
    · exact iW_fr (hC.1 i hi) (hun _ (by simp only [List.mem_cons, List.not_mem_nil, or_false, not_or]; omega)) (hun _ (by simp only [List.mem_cons, List.not_mem_nil, or_false, not_or]; omega))
    · by_cases hd4 : i = i4
      · rw [hd4]; refine ⟨_, _, _, _, _, hU19, hU20, hU21, ?_⟩; first | exact hp.1
      · exact iD_fr (hC.2.1 i hi) (hun _ (by simp only [List.mem_cons, List.not_mem_nil, or_false, not_or]; omega)) (hun _ (by simp only [List.mem_cons, List.not_mem_nil, or_false, not_or]; omega)) (hun _ (by simp only [List.mem_cons, List.not_mem_nil, or_false, not_or]; omega))
    · refine ⟨_, _, _, _, _, ((hun _ (by simp only [List.mem_cons, List.not_mem_nil, or_false, not_or]; omega)).trans hT1), hU1, hU2, ?_⟩; first | exact hp.2 | exact hp.1
set_option maxRecDepth 100000 in
theorem CV_convert (l : Launch) (D : va_G) (g : Nat → ClassId) (q : Nat → Nat) (ws : va_W) (x2 : Int32) (x3 : Int32) (x4 : Int32) (x5 : Int32) (i3 : Nat) (hi3 : i3 < 10) (i5 : Nat) (hi5 : i5 < 10) (e3 : x3.toNatClampNeg < 10 → i3 = x3.toNatClampNeg) (e5 : x5.toNatClampNeg < 10 → i5 = x5.toNatClampNeg) (hlt : l.stackTraces = false) (hI : q_I (nsh g q) q ws) (hC : iC g q ws) : ∀ sz, q_Mx l y_NH_convert prog_1_method_16_code 5 none 9 4 24 D g [.ref (q 0), .int x2, .int x3, .int x4, .int x5] ws sz (va_Qv (fun u => iP g q ws u) (q_B D g (va_A ws sz)) (va_A ws sz)) (fun E u => (∃ c : Int32, E = qE c ∧ (c = 1 ∨ c = 2)) ∧ iP g q ws u) := by
  intro sz
  obtain ⟨t0_0, t0_1, hT0, bT0⟩ := n_o30 hI
  obtain ⟨t1_0, t1_1, hT1, bT1⟩ := q_bigO hI (n_b10 g q)
  obtain ⟨t2_0, hT2, bT2⟩ := n_ai hI (n_s11 g q)
  obtain ⟨t3_0, t3_1, hT3, bT3⟩ := q_bigO hI (n_b12 g q)
  obtain ⟨t4_0, hT4, bT4⟩ := n_ai hI (n_s13 g q)
  obtain ⟨t5_0, t5_1, hT5, bT5⟩ := q_bigO hI (n_b20 g q)
  obtain ⟨t6_0, hT6, bT6⟩ := n_ai hI (n_s21 g q)
  obtain ⟨t7_0, t7_1, hT7, bT7⟩ := q_bigO hI (n_b22 g q)
  obtain ⟨t8_0, hT8, bT8⟩ := n_ai hI (n_s23 g q)
  obtain ⟨t9_0, t9_1, hT9, bT9⟩ := q_bigO hI (n_b24 g q)
  obtain ⟨t10_0, hT10, bT10⟩ := n_ai hI (n_s25 g q)
  obtain ⟨t11_0, hT11⟩ := n_al hI (n_s7 g q)
  obtain ⟨t12_0, hT12⟩ := n_al hI (n_s8 g q)
  obtain ⟨t13_0, hZ9⟩ := hC.1 i3 hi3
  obtain ⟨t13_1, hZ9⟩ := hZ9
  obtain ⟨t14_0, hZ9⟩ := hZ9
  obtain ⟨hT13, hZ9⟩ := hZ9
  obtain ⟨hT14, hZ9⟩ := hZ9
  obtain ⟨vk3, hZ9⟩ := hZ9
  obtain ⟨hbk3, hBk3⟩ := hZ9
  obtain ⟨t15_0, hZ9⟩ := hC.2.1 i3 hi3
  obtain ⟨t15_1, hZ9⟩ := hZ9
  obtain ⟨t16_0, hZ9⟩ := hZ9
  obtain ⟨t16_1, hZ9⟩ := hZ9
  obtain ⟨t17_0, hZ9⟩ := hZ9
  obtain ⟨hT15, hZ9⟩ := hZ9
  obtain ⟨hT16, hZ9⟩ := hZ9
  obtain ⟨hT17, hZ9⟩ := hZ9
  obtain ⟨vd3, hbd3⟩ := hZ9
  obtain ⟨t18_0, hZ9⟩ := hC.1 i5 hi5
  obtain ⟨t18_1, hZ9⟩ := hZ9
  obtain ⟨t19_0, hZ9⟩ := hZ9
  obtain ⟨hT18, hZ9⟩ := hZ9
  obtain ⟨hT19, hZ9⟩ := hZ9
  obtain ⟨vk5, hZ9⟩ := hZ9
  obtain ⟨hbk5, hBk5⟩ := hZ9
  obtain ⟨t20_0, hZ9⟩ := hC.2.1 i5 hi5
  obtain ⟨t20_1, hZ9⟩ := hZ9
  obtain ⟨t21_0, hZ9⟩ := hZ9
  obtain ⟨t21_1, hZ9⟩ := hZ9
  obtain ⟨t22_0, hZ9⟩ := hZ9
  obtain ⟨hT20, hZ9⟩ := hZ9
  obtain ⟨hT21, hZ9⟩ := hZ9
  obtain ⟨hT22, hZ9⟩ := hZ9
  obtain ⟨vd5, hbd5⟩ := hZ9
  have hq := T_convert (x2 := x2) (x3 := x3) (x4 := x4) (x5 := x5) (t0_0 := t0_0) (t0_1 := t0_1) (t1_0 := t1_0) (t1_1 := t1_1) (t2_0 := t2_0) (t3_0 := t3_0) (t3_1 := t3_1) (t4_0 := t4_0) (t5_0 := t5_0) (t5_1 := t5_1) (t6_0 := t6_0) (t7_0 := t7_0) (t7_1 := t7_1) (t8_0 := t8_0) (t9_0 := t9_0) (t9_1 := t9_1) (t10_0 := t10_0) (t11_0 := t11_0) (t12_0 := t12_0) (t13_0 := t13_0) (t13_1 := t13_1) (t14_0 := t14_0) (t15_0 := t15_0) (t15_1 := t15_1) (t16_0 := t16_0) (t16_1 := t16_1) (t17_0 := t17_0) (t18_0 := t18_0) (t18_1 := t18_1) (t19_0 := t19_0) (t20_0 := t20_0) (t20_1 := t20_1) (t21_0 := t21_0) (t21_1 := t21_1) (t22_0 := t22_0) hbk3 hBk3 hbd3 ⟨_, hbk5, hBk5⟩ ⟨_, hbd5⟩
  refine q_MxV (X_NH_convert l D g q ws x2 x3 x4 x5 (66 + 5 * i3) (n_w g q hi3) (by omega) (fun h => by have z := e3 h; omega) (68 + 5 * i3) (n_d g q hi3) (by omega) (fun h => by have z := e3 h; omega) (66 + 5 * i5) (n_w g q hi5) (by omega) (fun h => by have z := e5 h; omega) (68 + 5 * i5) (n_d g q hi5) (by omega) (fun h => by have z := e5 h; omega) (by omega) (by omega) (by omega) (by omega) (by omega) (by omega) (by omega) (by omega) hlt hI t0_0 t0_1 hT0 t1_0 t1_1 hT1 t2_0 hT2 t3_0 t3_1 hT3 t4_0 hT4 t5_0 t5_1 hT5 t6_0 hT6 t7_0 t7_1 hT7 t8_0 hT8 t9_0 t9_1 hT9 t10_0 hT10 t11_0 hT11 t12_0 hT12 t13_0 t13_1 hT13 t14_0 hT14 t15_0 t15_1 hT15 t16_0 t16_1 hT16 t17_0 hT17 t18_0 t18_1 hT18 t19_0 hT19 t20_0 t20_1 hT20 t21_0 t21_1 hT21 t22_0 hT22 ⟨trivial, hq.1⟩ sz) ?_ ?_
  · rintro u hZ9
    obtain ⟨hI2, hZ9⟩ := hZ9
    obtain ⟨hun, hZ9⟩ := hZ9
    obtain ⟨u0_0, hZ9⟩ := hZ9
    obtain ⟨u0_1, hZ9⟩ := hZ9
    obtain ⟨u1_0, hZ9⟩ := hZ9
    obtain ⟨u1_1, hZ9⟩ := hZ9
    obtain ⟨u2_0, hZ9⟩ := hZ9
    obtain ⟨u3_0, hZ9⟩ := hZ9
    obtain ⟨u3_1, hZ9⟩ := hZ9
    obtain ⟨u4_0, hZ9⟩ := hZ9
    obtain ⟨u5_0, hZ9⟩ := hZ9
    obtain ⟨u5_1, hZ9⟩ := hZ9
    obtain ⟨u6_0, hZ9⟩ := hZ9
    obtain ⟨u7_0, hZ9⟩ := hZ9
    obtain ⟨u7_1, hZ9⟩ := hZ9
    obtain ⟨u8_0, hZ9⟩ := hZ9
    obtain ⟨u9_0, hZ9⟩ := hZ9
    obtain ⟨u9_1, hZ9⟩ := hZ9
    obtain ⟨u10_0, hZ9⟩ := hZ9
    obtain ⟨u11_0, hZ9⟩ := hZ9
    obtain ⟨u12_0, hZ9⟩ := hZ9
    obtain ⟨u18_0, hZ9⟩ := hZ9
    obtain ⟨u18_1, hZ9⟩ := hZ9
    obtain ⟨u19_0, hZ9⟩ := hZ9
    obtain ⟨u20_0, hZ9⟩ := hZ9
    obtain ⟨u20_1, hZ9⟩ := hZ9
    obtain ⟨u21_0, hZ9⟩ := hZ9
    obtain ⟨u21_1, hZ9⟩ := hZ9
    obtain ⟨u22_0, hZ9⟩ := hZ9
    obtain ⟨hU0, hZ9⟩ := hZ9
    obtain ⟨hU1, hZ9⟩ := hZ9
    obtain ⟨hU2, hZ9⟩ := hZ9
    obtain ⟨hU3, hZ9⟩ := hZ9
    obtain ⟨hU4, hZ9⟩ := hZ9
    obtain ⟨hU5, hZ9⟩ := hZ9
    obtain ⟨hU6, hZ9⟩ := hZ9
    obtain ⟨hU7, hZ9⟩ := hZ9
    obtain ⟨hU8, hZ9⟩ := hZ9
    obtain ⟨hU9, hZ9⟩ := hZ9
    obtain ⟨hU10, hZ9⟩ := hZ9
    obtain ⟨hU11, hZ9⟩ := hZ9
    obtain ⟨hU12, hZ9⟩ := hZ9
    obtain ⟨hU13, hZ9⟩ := hZ9
    obtain ⟨hU14, hZ9⟩ := hZ9
    obtain ⟨hU15, hZ9⟩ := hZ9
    obtain ⟨hU16, hZ9⟩ := hZ9
    obtain ⟨hU17, hR⟩ := hZ9
    have hF := hR.2.2.2.2.2.2.2.2.2.2.2.2.2.2.2.2.2.2.2.2.2.2.2.2.2.2.2.2.2.2.2.2.2.2.2.2.2.2.2.2.2.2.2.2.2.2.2.2.2.2.2.2.2.2.2.2.2.2.2.2.2.2.2.2.2.2.2.2.2.2.2.2.2.2.2.2.2
    have hp := hq.2
    rw [← hF] at hp
    refine ⟨hI2, ⟨fun i hi => ?_, fun i hi => ?_, ?_⟩, fun i hi => hun i (by simp only [List.mem_cons, List.not_mem_nil, or_false, not_or]; omega)⟩
    · by_cases hk5 : i = i5
      · rw [hk5]; refine ⟨_, _, _, hU13, hU14, ?_⟩; first | exact hp.1
      · exact iW_fr (hC.1 i hi) (hun _ (by simp only [List.mem_cons, List.not_mem_nil, or_false, not_or]; omega)) (hun _ (by simp only [List.mem_cons, List.not_mem_nil, or_false, not_or]; omega))
    · by_cases hd5 : i = i5
      · rw [hd5]; refine ⟨_, _, _, _, _, hU15, hU16, hU17, ?_⟩; first | exact hp.2
      · exact iD_fr (hC.2.1 i hi) (hun _ (by simp only [List.mem_cons, List.not_mem_nil, or_false, not_or]; omega)) (hun _ (by simp only [List.mem_cons, List.not_mem_nil, or_false, not_or]; omega)) (hun _ (by simp only [List.mem_cons, List.not_mem_nil, or_false, not_or]; omega))
    · exact iO_fr hC.2.2 (hun _ (by simp only [List.mem_cons, List.not_mem_nil, or_false, not_or]; omega)) (hun _ (by simp only [List.mem_cons, List.not_mem_nil, or_false, not_or]; omega)) (hun _ (by simp only [List.mem_cons, List.not_mem_nil, or_false, not_or]; omega))
  · rintro E u hZ9
    obtain ⟨c, hZ9⟩ := hZ9
    obtain ⟨hE, hZ9⟩ := hZ9
    obtain ⟨hc, hZ9⟩ := hZ9
    obtain ⟨hI2, hZ9⟩ := hZ9
    obtain ⟨hun, hZ9⟩ := hZ9
    obtain ⟨u0_0, hZ9⟩ := hZ9
    obtain ⟨u0_1, hZ9⟩ := hZ9
    obtain ⟨u1_0, hZ9⟩ := hZ9
    obtain ⟨u1_1, hZ9⟩ := hZ9
    obtain ⟨u2_0, hZ9⟩ := hZ9
    obtain ⟨u3_0, hZ9⟩ := hZ9
    obtain ⟨u3_1, hZ9⟩ := hZ9
    obtain ⟨u4_0, hZ9⟩ := hZ9
    obtain ⟨u5_0, hZ9⟩ := hZ9
    obtain ⟨u5_1, hZ9⟩ := hZ9
    obtain ⟨u6_0, hZ9⟩ := hZ9
    obtain ⟨u7_0, hZ9⟩ := hZ9
    obtain ⟨u7_1, hZ9⟩ := hZ9
    obtain ⟨u8_0, hZ9⟩ := hZ9
    obtain ⟨u9_0, hZ9⟩ := hZ9
    obtain ⟨u9_1, hZ9⟩ := hZ9
    obtain ⟨u10_0, hZ9⟩ := hZ9
    obtain ⟨u11_0, hZ9⟩ := hZ9
    obtain ⟨u12_0, hZ9⟩ := hZ9
    obtain ⟨u18_0, hZ9⟩ := hZ9
    obtain ⟨u18_1, hZ9⟩ := hZ9
    obtain ⟨u19_0, hZ9⟩ := hZ9
    obtain ⟨u20_0, hZ9⟩ := hZ9
    obtain ⟨u20_1, hZ9⟩ := hZ9
    obtain ⟨u21_0, hZ9⟩ := hZ9
    obtain ⟨u21_1, hZ9⟩ := hZ9
    obtain ⟨u22_0, hZ9⟩ := hZ9
    obtain ⟨hU0, hZ9⟩ := hZ9
    obtain ⟨hU1, hZ9⟩ := hZ9
    obtain ⟨hU2, hZ9⟩ := hZ9
    obtain ⟨hU3, hZ9⟩ := hZ9
    obtain ⟨hU4, hZ9⟩ := hZ9
    obtain ⟨hU5, hZ9⟩ := hZ9
    obtain ⟨hU6, hZ9⟩ := hZ9
    obtain ⟨hU7, hZ9⟩ := hZ9
    obtain ⟨hU8, hZ9⟩ := hZ9
    obtain ⟨hU9, hZ9⟩ := hZ9
    obtain ⟨hU10, hZ9⟩ := hZ9
    obtain ⟨hU11, hZ9⟩ := hZ9
    obtain ⟨hU12, hZ9⟩ := hZ9
    obtain ⟨hU13, hZ9⟩ := hZ9
    obtain ⟨hU14, hZ9⟩ := hZ9
    obtain ⟨hU15, hZ9⟩ := hZ9
    obtain ⟨hU16, hZ9⟩ := hZ9
    obtain ⟨hU17, hF⟩ := hZ9
    have hp := hq.2
    rw [← hF] at hp
    have hk := K_NH_convert (x2 := x2) (x3 := x3) (x4 := x4) (x5 := x5) (t0_0 := t0_0) (t0_1 := t0_1) (t1_0 := t1_0) (t1_1 := t1_1) (t2_0 := t2_0) (t3_0 := t3_0) (t3_1 := t3_1) (t4_0 := t4_0) (t5_0 := t5_0) (t5_1 := t5_1) (t6_0 := t6_0) (t7_0 := t7_0) (t7_1 := t7_1) (t8_0 := t8_0) (t9_0 := t9_0) (t9_1 := t9_1) (t10_0 := t10_0) (t11_0 := t11_0) (t12_0 := t12_0) (t13_0 := t13_0) (t13_1 := t13_1) (t14_0 := t14_0) (t15_0 := t15_0) (t15_1 := t15_1) (t16_0 := t16_0) (t16_1 := t16_1) (t17_0 := t17_0) (t18_0 := t18_0) (t18_1 := t18_1) (t19_0 := t19_0) (t20_0 := t20_0) (t20_1 := t20_1) (t21_0 := t21_0) (t21_1 := t21_1) (t22_0 := t22_0)
    rw [← hF] at hk
    replace hk : kC12 c := hk
    refine ⟨⟨c, hE, hk.resolve_left hc⟩, hI2, ⟨fun i hi => ?_, fun i hi => ?_, ?_⟩, fun i hi => hun i (by simp only [List.mem_cons, List.not_mem_nil, or_false, not_or]; omega)⟩
    · by_cases hk5 : i = i5
      · rw [hk5]; refine ⟨_, _, _, hU13, hU14, ?_⟩; first | exact hp.1
      · exact iW_fr (hC.1 i hi) (hun _ (by simp only [List.mem_cons, List.not_mem_nil, or_false, not_or]; omega)) (hun _ (by simp only [List.mem_cons, List.not_mem_nil, or_false, not_or]; omega))
    · by_cases hd5 : i = i5
      · rw [hd5]; refine ⟨_, _, _, _, _, hU15, hU16, hU17, ?_⟩; first | exact hp.2
      · exact iD_fr (hC.2.1 i hi) (hun _ (by simp only [List.mem_cons, List.not_mem_nil, or_false, not_or]; omega)) (hun _ (by simp only [List.mem_cons, List.not_mem_nil, or_false, not_or]; omega)) (hun _ (by simp only [List.mem_cons, List.not_mem_nil, or_false, not_or]; omega))
    · exact iO_fr hC.2.2 (hun _ (by simp only [List.mem_cons, List.not_mem_nil, or_false, not_or]; omega)) (hun _ (by simp only [List.mem_cons, List.not_mem_nil, or_false, not_or]; omega)) (hun _ (by simp only [List.mem_cons, List.not_mem_nil, or_false, not_or]; omega))
set_option maxRecDepth 100000 in
theorem CV_print (l : Launch) (D : va_G) (g : Nat → ClassId) (q : Nat → Nat) (ws : va_W) (x2 : Int32) (x3 : Int32) (x4 : Int32) (i3 : Nat) (hi3 : i3 < 10) (e3 : x3.toNatClampNeg < 10 → i3 = x3.toNatClampNeg) (hlt : l.stackTraces = false) (hI : q_I (nsh g q) q ws) (hC : iC g q ws) : ∀ sz, q_Mx l y_NH_print prog_1_method_17_code 4 (some .int) 9 2 12 D g [.ref (q 0), .int x2, .int x3, .int x4] ws sz (va_Qi (fun _ u => iP g q ws u) (q_B D g (va_A ws sz)) (va_A ws sz)) (fun E u => (∃ c : Int32, E = qE c ∧ (c = 1)) ∧ iP g q ws u) := by
  intro sz
  obtain ⟨t0_0, hT0, bT0⟩ := n_shO hI (n_h3 g q)
  obtain ⟨t1_0, hT1⟩ := n_al hI (n_s4 g q)
  obtain ⟨t2_0, t2_1, hT2, bT2⟩ := q_bigO hI (n_b10 g q)
  obtain ⟨t3_0, hT3, bT3⟩ := n_ai hI (n_s11 g q)
  obtain ⟨t4_0, t4_1, hT4, bT4⟩ := n_o36 hI
  obtain ⟨t5_0, hT5, bT5⟩ := n_ai hI (n_s37 g q)
  obtain ⟨t6_0, hT6⟩ := n_al hI (n_s7 g q)
  obtain ⟨t7_0, hT7⟩ := n_al hI (n_s8 g q)
  obtain ⟨t8_0, t8_1, hT8, bT8⟩ := q_bigO hI (n_b22 g q)
  obtain ⟨t9_0, hT9, bT9⟩ := n_ai hI (n_s23 g q)
  obtain ⟨t10_0, t10_1, hT10, bT10⟩ := q_bigO hI (n_b24 g q)
  obtain ⟨t11_0, hT11, bT11⟩ := n_ai hI (n_s25 g q)
  obtain ⟨t12_0, t12_1, hT12, bT12⟩ := q_bigO hI (n_b26 g q)
  obtain ⟨t13_0, hT13, bT13⟩ := n_ai hI (n_s27 g q)
  obtain ⟨t14_0, t14_1, hT14, bT14⟩ := q_bigO hI (n_b28 g q)
  obtain ⟨t15_0, hT15, bT15⟩ := n_ai hI (n_s29 g q)
  obtain ⟨t16_0, t16_1, t16_2, hT16⟩ := n_flO hI (n_f34 g q)
  obtain ⟨t17_0, t17_1, t17_2, hT17⟩ := n_flO hI (n_f35 g q)
  obtain ⟨t18_0, hZ9⟩ := hC.1 i3 hi3
  obtain ⟨t18_1, hZ9⟩ := hZ9
  obtain ⟨t19_0, hZ9⟩ := hZ9
  obtain ⟨hT18, hZ9⟩ := hZ9
  obtain ⟨hT19, hZ9⟩ := hZ9
  obtain ⟨vk3, hZ9⟩ := hZ9
  obtain ⟨hbk3, hBk3⟩ := hZ9
  obtain ⟨t20_0, hZ9⟩ := hC.2.1 i3 hi3
  obtain ⟨t20_1, hZ9⟩ := hZ9
  obtain ⟨t21_0, hZ9⟩ := hZ9
  obtain ⟨t21_1, hZ9⟩ := hZ9
  obtain ⟨t22_0, hZ9⟩ := hZ9
  obtain ⟨hT20, hZ9⟩ := hZ9
  obtain ⟨hT21, hZ9⟩ := hZ9
  obtain ⟨hT22, hZ9⟩ := hZ9
  obtain ⟨vd3, hbd3⟩ := hZ9
  have hq := T_print (x2 := x2) (x3 := x3) (x4 := x4) (t0_0 := t0_0) (t1_0 := t1_0) (t2_0 := t2_0) (t2_1 := t2_1) (t3_0 := t3_0) (t4_0 := t4_0) (t4_1 := t4_1) (t5_0 := t5_0) (t6_0 := t6_0) (t7_0 := t7_0) (t8_0 := t8_0) (t8_1 := t8_1) (t9_0 := t9_0) (t10_0 := t10_0) (t10_1 := t10_1) (t11_0 := t11_0) (t12_0 := t12_0) (t12_1 := t12_1) (t13_0 := t13_0) (t14_0 := t14_0) (t14_1 := t14_1) (t15_0 := t15_0) (t16_0 := t16_0) (t16_1 := t16_1) (t16_2 := t16_2) (t17_0 := t17_0) (t17_1 := t17_1) (t17_2 := t17_2) (t18_0 := t18_0) (t18_1 := t18_1) (t19_0 := t19_0) (t20_0 := t20_0) (t20_1 := t20_1) (t21_0 := t21_0) (t21_1 := t21_1) (t22_0 := t22_0) hbk3 hbd3
  refine q_MxI (X_NH_print l D g q ws x2 x3 x4 (66 + 5 * i3) (n_w g q hi3) (by omega) (fun h => by have z := e3 h; omega) (68 + 5 * i3) (n_d g q hi3) (by omega) (fun h => by have z := e3 h; omega) (by omega) (by omega) (by omega) (by omega) hlt hI t0_0 hT0 t1_0 hT1 t2_0 t2_1 hT2 t3_0 hT3 t4_0 t4_1 hT4 t5_0 hT5 t6_0 hT6 t7_0 hT7 t8_0 t8_1 hT8 t9_0 hT9 t10_0 t10_1 hT10 t11_0 hT11 t12_0 t12_1 hT12 t13_0 hT13 t14_0 t14_1 hT14 t15_0 hT15 t16_0 t16_1 t16_2 hT16 t17_0 t17_1 t17_2 hT17 t18_0 t18_1 hT18 t19_0 hT19 t20_0 t20_1 hT20 t21_0 t21_1 hT21 t22_0 hT22 ⟨trivial, hq⟩ sz) ?_ ?_
  · rintro r u hZ9
    obtain ⟨hI2, hZ9⟩ := hZ9
    obtain ⟨hun, hZ9⟩ := hZ9
    obtain ⟨u0_0, hZ9⟩ := hZ9
    obtain ⟨u1_0, hZ9⟩ := hZ9
    obtain ⟨u2_0, hZ9⟩ := hZ9
    obtain ⟨u2_1, hZ9⟩ := hZ9
    obtain ⟨u3_0, hZ9⟩ := hZ9
    obtain ⟨u4_0, hZ9⟩ := hZ9
    obtain ⟨u4_1, hZ9⟩ := hZ9
    obtain ⟨u5_0, hZ9⟩ := hZ9
    obtain ⟨u8_0, hZ9⟩ := hZ9
    obtain ⟨u8_1, hZ9⟩ := hZ9
    obtain ⟨u9_0, hZ9⟩ := hZ9
    obtain ⟨u10_0, hZ9⟩ := hZ9
    obtain ⟨u10_1, hZ9⟩ := hZ9
    obtain ⟨u11_0, hZ9⟩ := hZ9
    obtain ⟨u12_0, hZ9⟩ := hZ9
    obtain ⟨u12_1, hZ9⟩ := hZ9
    obtain ⟨u13_0, hZ9⟩ := hZ9
    obtain ⟨u14_0, hZ9⟩ := hZ9
    obtain ⟨u14_1, hZ9⟩ := hZ9
    obtain ⟨u15_0, hZ9⟩ := hZ9
    obtain ⟨u16_0, hZ9⟩ := hZ9
    obtain ⟨u16_1, hZ9⟩ := hZ9
    obtain ⟨u16_2, hZ9⟩ := hZ9
    obtain ⟨u17_0, hZ9⟩ := hZ9
    obtain ⟨u17_1, hZ9⟩ := hZ9
    obtain ⟨u17_2, hZ9⟩ := hZ9
    obtain ⟨hU0, hZ9⟩ := hZ9
    obtain ⟨hU1, hZ9⟩ := hZ9
    obtain ⟨hU2, hZ9⟩ := hZ9
    obtain ⟨hU3, hZ9⟩ := hZ9
    obtain ⟨hU4, hZ9⟩ := hZ9
    obtain ⟨hU5, hZ9⟩ := hZ9
    obtain ⟨hU6, hZ9⟩ := hZ9
    obtain ⟨hU7, hZ9⟩ := hZ9
    obtain ⟨hU8, hZ9⟩ := hZ9
    obtain ⟨hU9, hZ9⟩ := hZ9
    obtain ⟨hU10, hZ9⟩ := hZ9
    obtain ⟨hU11, hZ9⟩ := hZ9
    obtain ⟨hU12, hZ9⟩ := hZ9
    obtain ⟨hU13, hZ9⟩ := hZ9
    obtain ⟨hU14, hZ9⟩ := hZ9
    obtain ⟨hU15, hR⟩ := hZ9
    refine ⟨hI2, ⟨fun i hi => ?_, fun i hi => ?_, ?_⟩, fun i hi => hun i (by simp only [List.mem_cons, List.not_mem_nil, or_false, not_or]; omega)⟩
    · exact iW_fr (hC.1 i hi) (hun _ (by simp only [List.mem_cons, List.not_mem_nil, or_false, not_or]; omega)) (hun _ (by simp only [List.mem_cons, List.not_mem_nil, or_false, not_or]; omega))
    · exact iD_fr (hC.2.1 i hi) (hun _ (by simp only [List.mem_cons, List.not_mem_nil, or_false, not_or]; omega)) (hun _ (by simp only [List.mem_cons, List.not_mem_nil, or_false, not_or]; omega)) (hun _ (by simp only [List.mem_cons, List.not_mem_nil, or_false, not_or]; omega))
    · exact iO_fr hC.2.2 (hun _ (by simp only [List.mem_cons, List.not_mem_nil, or_false, not_or]; omega)) (hun _ (by simp only [List.mem_cons, List.not_mem_nil, or_false, not_or]; omega)) (hun _ (by simp only [List.mem_cons, List.not_mem_nil, or_false, not_or]; omega))
  · rintro E u hZ9
    obtain ⟨c, hZ9⟩ := hZ9
    obtain ⟨hE, hZ9⟩ := hZ9
    obtain ⟨hc, hZ9⟩ := hZ9
    obtain ⟨hI2, hZ9⟩ := hZ9
    obtain ⟨hun, hZ9⟩ := hZ9
    obtain ⟨u0_0, hZ9⟩ := hZ9
    obtain ⟨u1_0, hZ9⟩ := hZ9
    obtain ⟨u2_0, hZ9⟩ := hZ9
    obtain ⟨u2_1, hZ9⟩ := hZ9
    obtain ⟨u3_0, hZ9⟩ := hZ9
    obtain ⟨u4_0, hZ9⟩ := hZ9
    obtain ⟨u4_1, hZ9⟩ := hZ9
    obtain ⟨u5_0, hZ9⟩ := hZ9
    obtain ⟨u8_0, hZ9⟩ := hZ9
    obtain ⟨u8_1, hZ9⟩ := hZ9
    obtain ⟨u9_0, hZ9⟩ := hZ9
    obtain ⟨u10_0, hZ9⟩ := hZ9
    obtain ⟨u10_1, hZ9⟩ := hZ9
    obtain ⟨u11_0, hZ9⟩ := hZ9
    obtain ⟨u12_0, hZ9⟩ := hZ9
    obtain ⟨u12_1, hZ9⟩ := hZ9
    obtain ⟨u13_0, hZ9⟩ := hZ9
    obtain ⟨u14_0, hZ9⟩ := hZ9
    obtain ⟨u14_1, hZ9⟩ := hZ9
    obtain ⟨u15_0, hZ9⟩ := hZ9
    obtain ⟨u16_0, hZ9⟩ := hZ9
    obtain ⟨u16_1, hZ9⟩ := hZ9
    obtain ⟨u16_2, hZ9⟩ := hZ9
    obtain ⟨u17_0, hZ9⟩ := hZ9
    obtain ⟨u17_1, hZ9⟩ := hZ9
    obtain ⟨u17_2, hZ9⟩ := hZ9
    obtain ⟨hU0, hZ9⟩ := hZ9
    obtain ⟨hU1, hZ9⟩ := hZ9
    obtain ⟨hU2, hZ9⟩ := hZ9
    obtain ⟨hU3, hZ9⟩ := hZ9
    obtain ⟨hU4, hZ9⟩ := hZ9
    obtain ⟨hU5, hZ9⟩ := hZ9
    obtain ⟨hU6, hZ9⟩ := hZ9
    obtain ⟨hU7, hZ9⟩ := hZ9
    obtain ⟨hU8, hZ9⟩ := hZ9
    obtain ⟨hU9, hZ9⟩ := hZ9
    obtain ⟨hU10, hZ9⟩ := hZ9
    obtain ⟨hU11, hZ9⟩ := hZ9
    obtain ⟨hU12, hZ9⟩ := hZ9
    obtain ⟨hU13, hZ9⟩ := hZ9
    obtain ⟨hU14, hZ9⟩ := hZ9
    obtain ⟨hU15, hF⟩ := hZ9
    have hk := K_NH_print (x2 := x2) (x3 := x3) (x4 := x4) (t0_0 := t0_0) (t1_0 := t1_0) (t2_0 := t2_0) (t2_1 := t2_1) (t3_0 := t3_0) (t4_0 := t4_0) (t4_1 := t4_1) (t5_0 := t5_0) (t6_0 := t6_0) (t7_0 := t7_0) (t8_0 := t8_0) (t8_1 := t8_1) (t9_0 := t9_0) (t10_0 := t10_0) (t10_1 := t10_1) (t11_0 := t11_0) (t12_0 := t12_0) (t12_1 := t12_1) (t13_0 := t13_0) (t14_0 := t14_0) (t14_1 := t14_1) (t15_0 := t15_0) (t16_0 := t16_0) (t16_1 := t16_1) (t16_2 := t16_2) (t17_0 := t17_0) (t17_1 := t17_1) (t17_2 := t17_2) (t18_0 := t18_0) (t18_1 := t18_1) (t19_0 := t19_0) (t20_0 := t20_0) (t20_1 := t20_1) (t21_0 := t21_0) (t21_1 := t21_1) (t22_0 := t22_0)
    rw [← hF] at hk
    replace hk : kC1 c := hk
    refine ⟨⟨c, hE, hk.resolve_left hc⟩, hI2, ⟨fun i hi => ?_, fun i hi => ?_, ?_⟩, fun i hi => hun i (by simp only [List.mem_cons, List.not_mem_nil, or_false, not_or]; omega)⟩
    · exact iW_fr (hC.1 i hi) (hun _ (by simp only [List.mem_cons, List.not_mem_nil, or_false, not_or]; omega)) (hun _ (by simp only [List.mem_cons, List.not_mem_nil, or_false, not_or]; omega))
    · exact iD_fr (hC.2.1 i hi) (hun _ (by simp only [List.mem_cons, List.not_mem_nil, or_false, not_or]; omega)) (hun _ (by simp only [List.mem_cons, List.not_mem_nil, or_false, not_or]; omega)) (hun _ (by simp only [List.mem_cons, List.not_mem_nil, or_false, not_or]; omega))
    · exact iO_fr hC.2.2 (hun _ (by simp only [List.mem_cons, List.not_mem_nil, or_false, not_or]; omega)) (hun _ (by simp only [List.mem_cons, List.not_mem_nil, or_false, not_or]; omega)) (hun _ (by simp only [List.mem_cons, List.not_mem_nil, or_false, not_or]; omega))

set_option maxRecDepth 100000 in
theorem CV_decimal (l : Launch) (D : va_G) (g : Nat → ClassId) (q : Nat → Nat) (ws : va_W) (x2 : Int32) (x3 : Int32) (x4 : Int32) (x5 : Int32) (i3 : Nat) (hi3 : i3 < 10) (i4 : Nat) (hi4 : i4 < 10) (i5 : Nat) (hi5 : i5 < 10) (e3 : x3.toNatClampNeg < 10 → i3 = x3.toNatClampNeg) (e4 : x4.toNatClampNeg < 10 → i4 = x4.toNatClampNeg) (e5 : x5.toNatClampNeg < 10 → i5 = x5.toNatClampNeg) (nei3i4 : i3 ≠ i4) (nei4i5 : i4 ≠ i5) (hlt : l.stackTraces = false) (hI : q_I (nsh g q) q ws) (hC : iC g q ws) : ∀ sz, q_Mx l y_NH_decimal prog_1_method_11_code 7 none 9 3 18 D g [.ref (q 0), .int x2, .int x3, .int x4, .int x5] ws sz (va_Qv (fun u => iP g q ws u) (q_B D g (va_A ws sz)) (va_A ws sz)) (fun E u => (∃ c : Int32, E = qE c ∧ (c = 1 ∨ c = 2)) ∧ iP g q ws u) := by
  intro sz
  obtain ⟨t0_0, t0_1, hT0, bT0⟩ := n_o30 hI
  obtain ⟨t1_0, t1_1, hT1, bT1⟩ := q_bigO hI (n_b10 g q)
  obtain ⟨t2_0, hT2, bT2⟩ := n_ai hI (n_s11 g q)
  obtain ⟨t3_0, t3_1, hT3, bT3⟩ := q_bigO hI (n_b12 g q)
  obtain ⟨t4_0, hT4, bT4⟩ := n_ai hI (n_s13 g q)
  obtain ⟨t5_0, t5_1, hT5, bT5⟩ := q_bigO hI (n_b22 g q)
  obtain ⟨t6_0, hT6, bT6⟩ := n_ai hI (n_s23 g q)
  obtain ⟨t7_0, t7_1, hT7, bT7⟩ := q_bigO hI (n_b24 g q)
  obtain ⟨t8_0, hT8, bT8⟩ := n_ai hI (n_s25 g q)
  obtain ⟨t9_0, t9_1, hT9, bT9⟩ := q_bigO hI (n_b20 g q)
  obtain ⟨t10_0, hT10, bT10⟩ := n_ai hI (n_s21 g q)
  obtain ⟨t11_0, hZ9⟩ := hC.2.1 i3 hi3
  obtain ⟨t11_1, hZ9⟩ := hZ9
  obtain ⟨t12_0, hZ9⟩ := hZ9
  obtain ⟨t12_1, hZ9⟩ := hZ9
  obtain ⟨t13_0, hZ9⟩ := hZ9
  obtain ⟨hT11, hZ9⟩ := hZ9
  obtain ⟨hT12, hZ9⟩ := hZ9
  obtain ⟨hT13, hZ9⟩ := hZ9
  obtain ⟨vd3, hbd3⟩ := hZ9
  obtain ⟨t14_0, hZ9⟩ := hC.2.1 i4 hi4
  obtain ⟨t14_1, hZ9⟩ := hZ9
  obtain ⟨t15_0, hZ9⟩ := hZ9
  obtain ⟨t15_1, hZ9⟩ := hZ9
  obtain ⟨t16_0, hZ9⟩ := hZ9
  obtain ⟨hT14, hZ9⟩ := hZ9
  obtain ⟨hT15, hZ9⟩ := hZ9
  obtain ⟨hT16, hZ9⟩ := hZ9
  obtain ⟨vd4, hbd4⟩ := hZ9
  obtain ⟨t17_0, hZ9⟩ := hC.2.1 i5 hi5
  obtain ⟨t17_1, hZ9⟩ := hZ9
  obtain ⟨t18_0, hZ9⟩ := hZ9
  obtain ⟨t18_1, hZ9⟩ := hZ9
  obtain ⟨t19_0, hZ9⟩ := hZ9
  obtain ⟨hT17, hZ9⟩ := hZ9
  obtain ⟨hT18, hZ9⟩ := hZ9
  obtain ⟨hT19, hZ9⟩ := hZ9
  obtain ⟨vd5, hbd5⟩ := hZ9
  have hq := T_decimal (x2 := x2) (x3 := x3) (x4 := x4) (x5 := x5) (t0_0 := t0_0) (t0_1 := t0_1) (t1_0 := t1_0) (t1_1 := t1_1) (t2_0 := t2_0) (t3_0 := t3_0) (t3_1 := t3_1) (t4_0 := t4_0) (t5_0 := t5_0) (t5_1 := t5_1) (t6_0 := t6_0) (t7_0 := t7_0) (t7_1 := t7_1) (t8_0 := t8_0) (t9_0 := t9_0) (t9_1 := t9_1) (t10_0 := t10_0) (t11_0 := t11_0) (t11_1 := t11_1) (t12_0 := t12_0) (t12_1 := t12_1) (t13_0 := t13_0) (t14_0 := t14_0) (t14_1 := t14_1) (t15_0 := t15_0) (t15_1 := t15_1) (t16_0 := t16_0) (t17_0 := t17_0) (t17_1 := t17_1) (t18_0 := t18_0) (t18_1 := t18_1) (t19_0 := t19_0) hbd3 hbd4 ⟨_, hbd5⟩
  refine q_MxV (X_NH_decimal l D g q ws x2 x3 x4 x5 (68 + 5 * i3) (n_d g q hi3) (by omega) (fun h => by have z := e3 h; omega) (68 + 5 * i4) (n_d g q hi4) (by omega) (fun h => by have z := e4 h; omega) (68 + 5 * i5) (n_d g q hi5) (by omega) (fun h => by have z := e5 h; omega) (by omega) (by omega) (by omega) (by omega) (by omega) (by omega) (by omega) (by omega) (by omega) (by omega) hlt hI t0_0 t0_1 hT0 t1_0 t1_1 hT1 t2_0 hT2 t3_0 t3_1 hT3 t4_0 hT4 t5_0 t5_1 hT5 t6_0 hT6 t7_0 t7_1 hT7 t8_0 hT8 t9_0 t9_1 hT9 t10_0 hT10 t11_0 t11_1 hT11 t12_0 t12_1 hT12 t13_0 hT13 t14_0 t14_1 hT14 t15_0 t15_1 hT15 t16_0 hT16 t17_0 t17_1 hT17 t18_0 t18_1 hT18 t19_0 hT19 ⟨trivial, hq.1⟩ sz) ?_ ?_
  · rintro u hZ9
    obtain ⟨hI2, hZ9⟩ := hZ9
    obtain ⟨hun, hZ9⟩ := hZ9
    obtain ⟨u0_0, hZ9⟩ := hZ9
    obtain ⟨u0_1, hZ9⟩ := hZ9
    obtain ⟨u1_0, hZ9⟩ := hZ9
    obtain ⟨u1_1, hZ9⟩ := hZ9
    obtain ⟨u2_0, hZ9⟩ := hZ9
    obtain ⟨u3_0, hZ9⟩ := hZ9
    obtain ⟨u3_1, hZ9⟩ := hZ9
    obtain ⟨u4_0, hZ9⟩ := hZ9
    obtain ⟨u5_0, hZ9⟩ := hZ9
    obtain ⟨u5_1, hZ9⟩ := hZ9
    obtain ⟨u6_0, hZ9⟩ := hZ9
    obtain ⟨u7_0, hZ9⟩ := hZ9
    obtain ⟨u7_1, hZ9⟩ := hZ9
    obtain ⟨u8_0, hZ9⟩ := hZ9
    obtain ⟨u9_0, hZ9⟩ := hZ9
    obtain ⟨u9_1, hZ9⟩ := hZ9
    obtain ⟨u10_0, hZ9⟩ := hZ9
    obtain ⟨u15_0, hZ9⟩ := hZ9
    obtain ⟨u15_1, hZ9⟩ := hZ9
    obtain ⟨u16_0, hZ9⟩ := hZ9
    obtain ⟨u17_0, hZ9⟩ := hZ9
    obtain ⟨u17_1, hZ9⟩ := hZ9
    obtain ⟨u18_0, hZ9⟩ := hZ9
    obtain ⟨u18_1, hZ9⟩ := hZ9
    obtain ⟨u19_0, hZ9⟩ := hZ9
    obtain ⟨hU0, hZ9⟩ := hZ9
    obtain ⟨hU1, hZ9⟩ := hZ9
    obtain ⟨hU2, hZ9⟩ := hZ9
    obtain ⟨hU3, hZ9⟩ := hZ9
    obtain ⟨hU4, hZ9⟩ := hZ9
    obtain ⟨hU5, hZ9⟩ := hZ9
    obtain ⟨hU6, hZ9⟩ := hZ9
    obtain ⟨hU7, hZ9⟩ := hZ9
    obtain ⟨hU8, hZ9⟩ := hZ9
    obtain ⟨hU9, hZ9⟩ := hZ9
    obtain ⟨hU10, hZ9⟩ := hZ9
    obtain ⟨hU11, hZ9⟩ := hZ9
    obtain ⟨hU12, hZ9⟩ := hZ9
    obtain ⟨hU13, hZ9⟩ := hZ9
    obtain ⟨hU14, hZ9⟩ := hZ9
    obtain ⟨hU15, hR⟩ := hZ9
    have hF := hR.2.2.2.2.2.2.2.2.2.2.2.2.2.2.2.2.2.2.2.2.2.2.2.2.2.2.2.2.2.2.2.2.2.2.2.2.2.2.2.2.2.2.2.2.2.2.2.2.2.2.2.2.2.2.2.2.2.2.2.2.2.2.2.2.2.2.2.2.2.2.2.2.2.2.2.2.2.2.2.2.2.2.2.2.2.2.2.2.2.2.2.2.2.2.2.2.2.2.2.2.2.2.2.2.2.2.2.2.2.2.2.2.2.2.2.2.2.2.2.2.2.2.2.2.2
    have hp := hq.2
    rw [← hF] at hp
    refine ⟨hI2, ⟨fun i hi => ?_, fun i hi => ?_, ?_⟩, fun i hi => hun i (by simp only [List.mem_cons, List.not_mem_nil, or_false, not_or]; omega)⟩
    · exact iW_fr (hC.1 i hi) (hun _ (by simp only [List.mem_cons, List.not_mem_nil, or_false, not_or]; omega)) (hun _ (by simp only [List.mem_cons, List.not_mem_nil, or_false, not_or]; omega))
    · by_cases hd4 : i = i4
      · rw [hd4]; refine ⟨_, _, _, _, _, ((hun _ (by simp only [List.mem_cons, List.not_mem_nil, or_false, not_or]; omega)).trans hT14), hU11, hU12, ?_⟩; first | exact ⟨_, hp.2⟩
      · by_cases hd5 : i = i5
        · rw [hd5]; refine ⟨_, _, _, _, _, hU13, hU14, hU15, ?_⟩; first | exact hp.1
        · exact iD_fr (hC.2.1 i hi) (hun _ (by simp only [List.mem_cons, List.not_mem_nil, or_false, not_or]; omega)) (hun _ (by simp only [List.mem_cons, List.not_mem_nil, or_false, not_or]; omega)) (hun _ (by simp only [List.mem_cons, List.not_mem_nil, or_false, not_or]; omega))
    · exact iO_fr hC.2.2 (hun _ (by simp only [List.mem_cons, List.not_mem_nil, or_false, not_or]; omega)) (hun _ (by simp only [List.mem_cons, List.not_mem_nil, or_false, not_or]; omega)) (hun _ (by simp only [List.mem_cons, List.not_mem_nil, or_false, not_or]; omega))
  · rintro E u hZ9
    obtain ⟨c, hZ9⟩ := hZ9
    obtain ⟨hE, hZ9⟩ := hZ9
    obtain ⟨hc, hZ9⟩ := hZ9
    obtain ⟨hI2, hZ9⟩ := hZ9
    obtain ⟨hun, hZ9⟩ := hZ9
    obtain ⟨u0_0, hZ9⟩ := hZ9
    obtain ⟨u0_1, hZ9⟩ := hZ9
    obtain ⟨u1_0, hZ9⟩ := hZ9
    obtain ⟨u1_1, hZ9⟩ := hZ9
    obtain ⟨u2_0, hZ9⟩ := hZ9
    obtain ⟨u3_0, hZ9⟩ := hZ9
    obtain ⟨u3_1, hZ9⟩ := hZ9
    obtain ⟨u4_0, hZ9⟩ := hZ9
    obtain ⟨u5_0, hZ9⟩ := hZ9
    obtain ⟨u5_1, hZ9⟩ := hZ9
    obtain ⟨u6_0, hZ9⟩ := hZ9
    obtain ⟨u7_0, hZ9⟩ := hZ9
    obtain ⟨u7_1, hZ9⟩ := hZ9
    obtain ⟨u8_0, hZ9⟩ := hZ9
    obtain ⟨u9_0, hZ9⟩ := hZ9
    obtain ⟨u9_1, hZ9⟩ := hZ9
    obtain ⟨u10_0, hZ9⟩ := hZ9
    obtain ⟨u15_0, hZ9⟩ := hZ9
    obtain ⟨u15_1, hZ9⟩ := hZ9
    obtain ⟨u16_0, hZ9⟩ := hZ9
    obtain ⟨u17_0, hZ9⟩ := hZ9
    obtain ⟨u17_1, hZ9⟩ := hZ9
    obtain ⟨u18_0, hZ9⟩ := hZ9
    obtain ⟨u18_1, hZ9⟩ := hZ9
    obtain ⟨u19_0, hZ9⟩ := hZ9
    obtain ⟨hU0, hZ9⟩ := hZ9
    obtain ⟨hU1, hZ9⟩ := hZ9
    obtain ⟨hU2, hZ9⟩ := hZ9
    obtain ⟨hU3, hZ9⟩ := hZ9
    obtain ⟨hU4, hZ9⟩ := hZ9
    obtain ⟨hU5, hZ9⟩ := hZ9
    obtain ⟨hU6, hZ9⟩ := hZ9
    obtain ⟨hU7, hZ9⟩ := hZ9
    obtain ⟨hU8, hZ9⟩ := hZ9
    obtain ⟨hU9, hZ9⟩ := hZ9
    obtain ⟨hU10, hZ9⟩ := hZ9
    obtain ⟨hU11, hZ9⟩ := hZ9
    obtain ⟨hU12, hZ9⟩ := hZ9
    obtain ⟨hU13, hZ9⟩ := hZ9
    obtain ⟨hU14, hZ9⟩ := hZ9
    obtain ⟨hU15, hF⟩ := hZ9
    have hp := hq.2
    rw [← hF] at hp
    have hk := K_NH_decimal (x2 := x2) (x3 := x3) (x4 := x4) (x5 := x5) (t0_0 := t0_0) (t0_1 := t0_1) (t1_0 := t1_0) (t1_1 := t1_1) (t2_0 := t2_0) (t3_0 := t3_0) (t3_1 := t3_1) (t4_0 := t4_0) (t5_0 := t5_0) (t5_1 := t5_1) (t6_0 := t6_0) (t7_0 := t7_0) (t7_1 := t7_1) (t8_0 := t8_0) (t9_0 := t9_0) (t9_1 := t9_1) (t10_0 := t10_0) (t11_0 := t11_0) (t11_1 := t11_1) (t12_0 := t12_0) (t12_1 := t12_1) (t13_0 := t13_0) (t14_0 := t14_0) (t14_1 := t14_1) (t15_0 := t15_0) (t15_1 := t15_1) (t16_0 := t16_0) (t17_0 := t17_0) (t17_1 := t17_1) (t18_0 := t18_0) (t18_1 := t18_1) (t19_0 := t19_0)
    rw [← hF] at hk
    replace hk : kC12 c := hk
    refine ⟨⟨c, hE, hk.resolve_left hc⟩, hI2, ⟨fun i hi => ?_, fun i hi => ?_, ?_⟩, fun i hi => hun i (by simp only [List.mem_cons, List.not_mem_nil, or_false, not_or]; omega)⟩
    · exact iW_fr (hC.1 i hi) (hun _ (by simp only [List.mem_cons, List.not_mem_nil, or_false, not_or]; omega)) (hun _ (by simp only [List.mem_cons, List.not_mem_nil, or_false, not_or]; omega))
    · by_cases hd4 : i = i4
      · rw [hd4]; refine ⟨_, _, _, _, _, ((hun _ (by simp only [List.mem_cons, List.not_mem_nil, or_false, not_or]; omega)).trans hT14), hU11, hU12, ?_⟩; first | exact ⟨_, hp.2⟩
      · by_cases hd5 : i = i5
        · rw [hd5]; refine ⟨_, _, _, _, _, hU13, hU14, hU15, ?_⟩; first | exact hp.1
        · exact iD_fr (hC.2.1 i hi) (hun _ (by simp only [List.mem_cons, List.not_mem_nil, or_false, not_or]; omega)) (hun _ (by simp only [List.mem_cons, List.not_mem_nil, or_false, not_or]; omega)) (hun _ (by simp only [List.mem_cons, List.not_mem_nil, or_false, not_or]; omega))
    · exact iO_fr hC.2.2 (hun _ (by simp only [List.mem_cons, List.not_mem_nil, or_false, not_or]; omega)) (hun _ (by simp only [List.mem_cons, List.not_mem_nil, or_false, not_or]; omega)) (hun _ (by simp only [List.mem_cons, List.not_mem_nil, or_false, not_or]; omega))
set_option maxRecDepth 100000 in
theorem CV_decimal_ab (l : Launch) (D : va_G) (g : Nat → ClassId) (q : Nat → Nat) (ws : va_W) (x2 : Int32) (x3 : Int32) (x4 : Int32) (x5 : Int32) (i3 : Nat) (hi3 : i3 < 10) (i5 : Nat) (hi5 : i5 < 10) (e3 : x3.toNatClampNeg < 10 → i3 = x3.toNatClampNeg) (e4 : x4.toNatClampNeg < 10 → i3 = x4.toNatClampNeg) (e5 : x5.toNatClampNeg < 10 → i5 = x5.toNatClampNeg) (nei3i5 : i3 ≠ i5) (hlt : l.stackTraces = false) (hI : q_I (nsh g q) q ws) (hC : iC g q ws) : ∀ sz, q_Mx l y_NH_decimal prog_1_method_11_code 7 none 9 3 18 D g [.ref (q 0), .int x2, .int x3, .int x4, .int x5] ws sz (va_Qv (fun u => iP g q ws u) (q_B D g (va_A ws sz)) (va_A ws sz)) (fun E u => (∃ c : Int32, E = qE c ∧ (c = 1 ∨ c = 2)) ∧ iP g q ws u) := by
  intro sz
  obtain ⟨t0_0, t0_1, hT0, bT0⟩ := n_o30 hI
  obtain ⟨t1_0, t1_1, hT1, bT1⟩ := q_bigO hI (n_b10 g q)
  obtain ⟨t2_0, hT2, bT2⟩ := n_ai hI (n_s11 g q)
  obtain ⟨t3_0, t3_1, hT3, bT3⟩ := q_bigO hI (n_b12 g q)
  obtain ⟨t4_0, hT4, bT4⟩ := n_ai hI (n_s13 g q)
  obtain ⟨t5_0, t5_1, hT5, bT5⟩ := q_bigO hI (n_b22 g q)
  obtain ⟨t6_0, hT6, bT6⟩ := n_ai hI (n_s23 g q)
  obtain ⟨t7_0, t7_1, hT7, bT7⟩ := q_bigO hI (n_b24 g q)
  obtain ⟨t8_0, hT8, bT8⟩ := n_ai hI (n_s25 g q)
  obtain ⟨t9_0, t9_1, hT9, bT9⟩ := q_bigO hI (n_b20 g q)
  obtain ⟨t10_0, hT10, bT10⟩ := n_ai hI (n_s21 g q)
  obtain ⟨t11_0, hZ9⟩ := hC.2.1 i3 hi3
  obtain ⟨t11_1, hZ9⟩ := hZ9
  obtain ⟨t12_0, hZ9⟩ := hZ9
  obtain ⟨t12_1, hZ9⟩ := hZ9
  obtain ⟨t13_0, hZ9⟩ := hZ9
  obtain ⟨hT11, hZ9⟩ := hZ9
  obtain ⟨hT12, hZ9⟩ := hZ9
  obtain ⟨hT13, hZ9⟩ := hZ9
  obtain ⟨vd3, hbd3⟩ := hZ9
  obtain ⟨t14_0, hZ9⟩ := hC.2.1 i5 hi5
  obtain ⟨t14_1, hZ9⟩ := hZ9
  obtain ⟨t15_0, hZ9⟩ := hZ9
  obtain ⟨t15_1, hZ9⟩ := hZ9
  obtain ⟨t16_0, hZ9⟩ := hZ9
  obtain ⟨hT14, hZ9⟩ := hZ9
  obtain ⟨hT15, hZ9⟩ := hZ9
  obtain ⟨hT16, hZ9⟩ := hZ9
  obtain ⟨vd5, hbd5⟩ := hZ9
  have hq := T_decimal_ab (x2 := x2) (x3 := x3) (x4 := x4) (x5 := x5) (t0_0 := t0_0) (t0_1 := t0_1) (t1_0 := t1_0) (t1_1 := t1_1) (t2_0 := t2_0) (t3_0 := t3_0) (t3_1 := t3_1) (t4_0 := t4_0) (t5_0 := t5_0) (t5_1 := t5_1) (t6_0 := t6_0) (t7_0 := t7_0) (t7_1 := t7_1) (t8_0 := t8_0) (t9_0 := t9_0) (t9_1 := t9_1) (t10_0 := t10_0) (t11_0 := t11_0) (t11_1 := t11_1) (t12_0 := t12_0) (t12_1 := t12_1) (t13_0 := t13_0) (t14_0 := t14_0) (t14_1 := t14_1) (t15_0 := t15_0) (t15_1 := t15_1) (t16_0 := t16_0) hbd3 ⟨_, hbd5⟩
  refine q_MxV (X_NH_decimal_ab l D g q ws x2 x3 x4 x5 (68 + 5 * i3) (n_d g q hi3) (by omega) (fun h => by have z := e3 h; omega) (fun h => by have z := e4 h; omega) (68 + 5 * i5) (n_d g q hi5) (by omega) (fun h => by have z := e5 h; omega) (by omega) (by omega) (by omega) (by omega) (by omega) hlt hI t0_0 t0_1 hT0 t1_0 t1_1 hT1 t2_0 hT2 t3_0 t3_1 hT3 t4_0 hT4 t5_0 t5_1 hT5 t6_0 hT6 t7_0 t7_1 hT7 t8_0 hT8 t9_0 t9_1 hT9 t10_0 hT10 t11_0 t11_1 hT11 t12_0 t12_1 hT12 t13_0 hT13 t14_0 t14_1 hT14 t15_0 t15_1 hT15 t16_0 hT16 ⟨trivial, hq.1⟩ sz) ?_ ?_
  · rintro u hZ9
    obtain ⟨hI2, hZ9⟩ := hZ9
    obtain ⟨hun, hZ9⟩ := hZ9
    obtain ⟨u0_0, hZ9⟩ := hZ9
    obtain ⟨u0_1, hZ9⟩ := hZ9
    obtain ⟨u1_0, hZ9⟩ := hZ9
    obtain ⟨u1_1, hZ9⟩ := hZ9
    obtain ⟨u2_0, hZ9⟩ := hZ9
    obtain ⟨u3_0, hZ9⟩ := hZ9
    obtain ⟨u3_1, hZ9⟩ := hZ9
    obtain ⟨u4_0, hZ9⟩ := hZ9
    obtain ⟨u5_0, hZ9⟩ := hZ9
    obtain ⟨u5_1, hZ9⟩ := hZ9
    obtain ⟨u6_0, hZ9⟩ := hZ9
    obtain ⟨u9_0, hZ9⟩ := hZ9
    obtain ⟨u9_1, hZ9⟩ := hZ9
    obtain ⟨u10_0, hZ9⟩ := hZ9
    obtain ⟨u14_0, hZ9⟩ := hZ9
    obtain ⟨u14_1, hZ9⟩ := hZ9
    obtain ⟨u15_0, hZ9⟩ := hZ9
    obtain ⟨u15_1, hZ9⟩ := hZ9
    obtain ⟨u16_0, hZ9⟩ := hZ9
    obtain ⟨hU0, hZ9⟩ := hZ9
    obtain ⟨hU1, hZ9⟩ := hZ9
    obtain ⟨hU2, hZ9⟩ := hZ9
    obtain ⟨hU3, hZ9⟩ := hZ9
    obtain ⟨hU4, hZ9⟩ := hZ9
    obtain ⟨hU5, hZ9⟩ := hZ9
    obtain ⟨hU6, hZ9⟩ := hZ9
    obtain ⟨hU7, hZ9⟩ := hZ9
    obtain ⟨hU8, hZ9⟩ := hZ9
    obtain ⟨hU9, hZ9⟩ := hZ9
    obtain ⟨hU10, hZ9⟩ := hZ9
    obtain ⟨hU11, hR⟩ := hZ9
    have hF := hR.2.2.2.2.2.2.2.2.2.2.2.2.2.2.2.2.2.2.2.2.2.2.2.2.2.2.2.2.2.2.2.2.2.2.2.2.2.2.2.2.2.2.2.2.2.2.2.2.2.2.2.2.2.2.2.2.2.2.2.2.2.2.2.2.2.2.2.2.2.2.2.2.2.2.2.2.2.2.2.2.2.2.2.2.2.2.2.2.2.2.2.2.2.2.2.2.2.2.2.2.2.2
    have hp := hq.2
    rw [← hF] at hp
    refine ⟨hI2, ⟨fun i hi => ?_, fun i hi => ?_, ?_⟩, fun i hi => hun i (by simp only [List.mem_cons, List.not_mem_nil, or_false, not_or]; omega)⟩
    · exact iW_fr (hC.1 i hi) (hun _ (by simp only [List.mem_cons, List.not_mem_nil, or_false, not_or]; omega)) (hun _ (by simp only [List.mem_cons, List.not_mem_nil, or_false, not_or]; omega))
    · by_cases hd5 : i = i5
      · rw [hd5]; refine ⟨_, _, _, _, _, hU9, hU10, hU11, ?_⟩; first | exact hp
      · exact iD_fr (hC.2.1 i hi) (hun _ (by simp only [List.mem_cons, List.not_mem_nil, or_false, not_or]; omega)) (hun _ (by simp only [List.mem_cons, List.not_mem_nil, or_false, not_or]; omega)) (hun _ (by simp only [List.mem_cons, List.not_mem_nil, or_false, not_or]; omega))
    · exact iO_fr hC.2.2 (hun _ (by simp only [List.mem_cons, List.not_mem_nil, or_false, not_or]; omega)) (hun _ (by simp only [List.mem_cons, List.not_mem_nil, or_false, not_or]; omega)) (hun _ (by simp only [List.mem_cons, List.not_mem_nil, or_false, not_or]; omega))
  · rintro E u hZ9
    obtain ⟨c, hZ9⟩ := hZ9
    obtain ⟨hE, hZ9⟩ := hZ9
    obtain ⟨hc, hZ9⟩ := hZ9
    obtain ⟨hI2, hZ9⟩ := hZ9
    obtain ⟨hun, hZ9⟩ := hZ9
    obtain ⟨u0_0, hZ9⟩ := hZ9
    obtain ⟨u0_1, hZ9⟩ := hZ9
    obtain ⟨u1_0, hZ9⟩ := hZ9
    obtain ⟨u1_1, hZ9⟩ := hZ9
    obtain ⟨u2_0, hZ9⟩ := hZ9
    obtain ⟨u3_0, hZ9⟩ := hZ9
    obtain ⟨u3_1, hZ9⟩ := hZ9
    obtain ⟨u4_0, hZ9⟩ := hZ9
    obtain ⟨u5_0, hZ9⟩ := hZ9
    obtain ⟨u5_1, hZ9⟩ := hZ9
    obtain ⟨u6_0, hZ9⟩ := hZ9
    obtain ⟨u9_0, hZ9⟩ := hZ9
    obtain ⟨u9_1, hZ9⟩ := hZ9
    obtain ⟨u10_0, hZ9⟩ := hZ9
    obtain ⟨u14_0, hZ9⟩ := hZ9
    obtain ⟨u14_1, hZ9⟩ := hZ9
    obtain ⟨u15_0, hZ9⟩ := hZ9
    obtain ⟨u15_1, hZ9⟩ := hZ9
    obtain ⟨u16_0, hZ9⟩ := hZ9
    obtain ⟨hU0, hZ9⟩ := hZ9
    obtain ⟨hU1, hZ9⟩ := hZ9
    obtain ⟨hU2, hZ9⟩ := hZ9
    obtain ⟨hU3, hZ9⟩ := hZ9
    obtain ⟨hU4, hZ9⟩ := hZ9
    obtain ⟨hU5, hZ9⟩ := hZ9
    obtain ⟨hU6, hZ9⟩ := hZ9
    obtain ⟨hU7, hZ9⟩ := hZ9
    obtain ⟨hU8, hZ9⟩ := hZ9
    obtain ⟨hU9, hZ9⟩ := hZ9
    obtain ⟨hU10, hZ9⟩ := hZ9
    obtain ⟨hU11, hF⟩ := hZ9
    have hp := hq.2
    rw [← hF] at hp
    have hk := K_NH_decimal_ab (x2 := x2) (x3 := x3) (x4 := x4) (x5 := x5) (t0_0 := t0_0) (t0_1 := t0_1) (t1_0 := t1_0) (t1_1 := t1_1) (t2_0 := t2_0) (t3_0 := t3_0) (t3_1 := t3_1) (t4_0 := t4_0) (t5_0 := t5_0) (t5_1 := t5_1) (t6_0 := t6_0) (t7_0 := t7_0) (t7_1 := t7_1) (t8_0 := t8_0) (t9_0 := t9_0) (t9_1 := t9_1) (t10_0 := t10_0) (t11_0 := t11_0) (t11_1 := t11_1) (t12_0 := t12_0) (t12_1 := t12_1) (t13_0 := t13_0) (t14_0 := t14_0) (t14_1 := t14_1) (t15_0 := t15_0) (t15_1 := t15_1) (t16_0 := t16_0)
    rw [← hF] at hk
    replace hk : kC12 c := hk
    refine ⟨⟨c, hE, hk.resolve_left hc⟩, hI2, ⟨fun i hi => ?_, fun i hi => ?_, ?_⟩, fun i hi => hun i (by simp only [List.mem_cons, List.not_mem_nil, or_false, not_or]; omega)⟩
    · exact iW_fr (hC.1 i hi) (hun _ (by simp only [List.mem_cons, List.not_mem_nil, or_false, not_or]; omega)) (hun _ (by simp only [List.mem_cons, List.not_mem_nil, or_false, not_or]; omega))
    · by_cases hd5 : i = i5
      · rw [hd5]; refine ⟨_, _, _, _, _, hU9, hU10, hU11, ?_⟩; first | exact hp
      · exact iD_fr (hC.2.1 i hi) (hun _ (by simp only [List.mem_cons, List.not_mem_nil, or_false, not_or]; omega)) (hun _ (by simp only [List.mem_cons, List.not_mem_nil, or_false, not_or]; omega)) (hun _ (by simp only [List.mem_cons, List.not_mem_nil, or_false, not_or]; omega))
    · exact iO_fr hC.2.2 (hun _ (by simp only [List.mem_cons, List.not_mem_nil, or_false, not_or]; omega)) (hun _ (by simp only [List.mem_cons, List.not_mem_nil, or_false, not_or]; omega)) (hun _ (by simp only [List.mem_cons, List.not_mem_nil, or_false, not_or]; omega))
set_option maxRecDepth 100000 in
theorem CV_decimal_bt (l : Launch) (D : va_G) (g : Nat → ClassId) (q : Nat → Nat) (ws : va_W) (x2 : Int32) (x3 : Int32) (x4 : Int32) (x5 : Int32) (i3 : Nat) (hi3 : i3 < 10) (i4 : Nat) (hi4 : i4 < 10) (e3 : x3.toNatClampNeg < 10 → i3 = x3.toNatClampNeg) (e4 : x4.toNatClampNeg < 10 → i4 = x4.toNatClampNeg) (e5 : x5.toNatClampNeg < 10 → i4 = x5.toNatClampNeg) (nei3i4 : i3 ≠ i4) (hlt : l.stackTraces = false) (hI : q_I (nsh g q) q ws) (hC : iC g q ws) : ∀ sz, q_Mx l y_NH_decimal prog_1_method_11_code 7 none 9 3 18 D g [.ref (q 0), .int x2, .int x3, .int x4, .int x5] ws sz (va_Qv (fun u => iP g q ws u) (q_B D g (va_A ws sz)) (va_A ws sz)) (fun E u => (∃ c : Int32, E = qE c ∧ (c = 1 ∨ c = 2)) ∧ iP g q ws u) := by
  intro sz
  obtain ⟨t0_0, t0_1, hT0, bT0⟩ := n_o30 hI
  obtain ⟨t1_0, t1_1, hT1, bT1⟩ := q_bigO hI (n_b10 g q)
  obtain ⟨t2_0, hT2, bT2⟩ := n_ai hI (n_s11 g q)
  obtain ⟨t3_0, t3_1, hT3, bT3⟩ := q_bigO hI (n_b12 g q)
  obtain ⟨t4_0, hT4, bT4⟩ := n_ai hI (n_s13 g q)
  obtain ⟨t5_0, t5_1, hT5, bT5⟩ := q_bigO hI (n_b22 g q)
  obtain ⟨t6_0, hT6, bT6⟩ := n_ai hI (n_s23 g q)
  obtain ⟨t7_0, t7_1, hT7, bT7⟩ := q_bigO hI (n_b24 g q)
  obtain ⟨t8_0, hT8, bT8⟩ := n_ai hI (n_s25 g q)
  obtain ⟨t9_0, t9_1, hT9, bT9⟩ := q_bigO hI (n_b20 g q)
  obtain ⟨t10_0, hT10, bT10⟩ := n_ai hI (n_s21 g q)
  obtain ⟨t11_0, hZ9⟩ := hC.2.1 i3 hi3
  obtain ⟨t11_1, hZ9⟩ := hZ9
  obtain ⟨t12_0, hZ9⟩ := hZ9
  obtain ⟨t12_1, hZ9⟩ := hZ9
  obtain ⟨t13_0, hZ9⟩ := hZ9
  obtain ⟨hT11, hZ9⟩ := hZ9
  obtain ⟨hT12, hZ9⟩ := hZ9
  obtain ⟨hT13, hZ9⟩ := hZ9
  obtain ⟨vd3, hbd3⟩ := hZ9
  obtain ⟨t14_0, hZ9⟩ := hC.2.1 i4 hi4
  obtain ⟨t14_1, hZ9⟩ := hZ9
  obtain ⟨t15_0, hZ9⟩ := hZ9
  obtain ⟨t15_1, hZ9⟩ := hZ9
  obtain ⟨t16_0, hZ9⟩ := hZ9
  obtain ⟨hT14, hZ9⟩ := hZ9
  obtain ⟨hT15, hZ9⟩ := hZ9
  obtain ⟨hT16, hZ9⟩ := hZ9
  obtain ⟨vd4, hbd4⟩ := hZ9
  have hq := T_decimal_bt (x2 := x2) (x3 := x3) (x4 := x4) (x5 := x5) (t0_0 := t0_0) (t0_1 := t0_1) (t1_0 := t1_0) (t1_1 := t1_1) (t2_0 := t2_0) (t3_0 := t3_0) (t3_1 := t3_1) (t4_0 := t4_0) (t5_0 := t5_0) (t5_1 := t5_1) (t6_0 := t6_0) (t7_0 := t7_0) (t7_1 := t7_1) (t8_0 := t8_0) (t9_0 := t9_0) (t9_1 := t9_1) (t10_0 := t10_0) (t11_0 := t11_0) (t11_1 := t11_1) (t12_0 := t12_0) (t12_1 := t12_1) (t13_0 := t13_0) (t14_0 := t14_0) (t14_1 := t14_1) (t15_0 := t15_0) (t15_1 := t15_1) (t16_0 := t16_0) hbd3 hbd4
  refine q_MxV (X_NH_decimal_bt l D g q ws x2 x3 x4 x5 (68 + 5 * i3) (n_d g q hi3) (by omega) (fun h => by have z := e3 h; omega) (68 + 5 * i4) (n_d g q hi4) (by omega) (fun h => by have z := e4 h; omega) (fun h => by have z := e5 h; omega) (by omega) (by omega) (by omega) (by omega) (by omega) hlt hI t0_0 t0_1 hT0 t1_0 t1_1 hT1 t2_0 hT2 t3_0 t3_1 hT3 t4_0 hT4 t5_0 t5_1 hT5 t6_0 hT6 t7_0 t7_1 hT7 t8_0 hT8 t9_0 t9_1 hT9 t10_0 hT10 t11_0 t11_1 hT11 t12_0 t12_1 hT12 t13_0 hT13 t14_0 t14_1 hT14 t15_0 t15_1 hT15 t16_0 hT16 ⟨trivial, hq.1⟩ sz) ?_ ?_
  · rintro u hZ9
    obtain ⟨hI2, hZ9⟩ := hZ9
    obtain ⟨hun, hZ9⟩ := hZ9
    obtain ⟨u0_0, hZ9⟩ := hZ9
    obtain ⟨u0_1, hZ9⟩ := hZ9
    obtain ⟨u1_0, hZ9⟩ := hZ9
    obtain ⟨u1_1, hZ9⟩ := hZ9
    obtain ⟨u2_0, hZ9⟩ := hZ9
    obtain ⟨u3_0, hZ9⟩ := hZ9
    obtain ⟨u3_1, hZ9⟩ := hZ9
    obtain ⟨u4_0, hZ9⟩ := hZ9
    obtain ⟨u5_0, hZ9⟩ := hZ9
    obtain ⟨u5_1, hZ9⟩ := hZ9
    obtain ⟨u6_0, hZ9⟩ := hZ9
    obtain ⟨u7_0, hZ9⟩ := hZ9
    obtain ⟨u7_1, hZ9⟩ := hZ9
    obtain ⟨u8_0, hZ9⟩ := hZ9
    obtain ⟨u9_0, hZ9⟩ := hZ9
    obtain ⟨u9_1, hZ9⟩ := hZ9
    obtain ⟨u10_0, hZ9⟩ := hZ9
    obtain ⟨u14_0, hZ9⟩ := hZ9
    obtain ⟨u14_1, hZ9⟩ := hZ9
    obtain ⟨u15_0, hZ9⟩ := hZ9
    obtain ⟨u15_1, hZ9⟩ := hZ9
    obtain ⟨u16_0, hZ9⟩ := hZ9
    obtain ⟨hU0, hZ9⟩ := hZ9
    obtain ⟨hU1, hZ9⟩ := hZ9
    obtain ⟨hU2, hZ9⟩ := hZ9
    obtain ⟨hU3, hZ9⟩ := hZ9
    obtain ⟨hU4, hZ9⟩ := hZ9
    obtain ⟨hU5, hZ9⟩ := hZ9
    obtain ⟨hU6, hZ9⟩ := hZ9
    obtain ⟨hU7, hZ9⟩ := hZ9
    obtain ⟨hU8, hZ9⟩ := hZ9
    obtain ⟨hU9, hZ9⟩ := hZ9
    obtain ⟨hU10, hZ9⟩ := hZ9
    obtain ⟨hU11, hZ9⟩ := hZ9
    obtain ⟨hU12, hZ9⟩ := hZ9
    obtain ⟨hU13, hR⟩ := hZ9
    have hF := hR.2.2.2.2.2.2.2.2.2.2.2.2.2.2.2.2.2.2.2.2.2.2.2.2.2.2.2.2.2.2.2.2.2.2.2.2.2.2.2.2.2.2.2.2.2.2.2.2.2.2.2.2.2.2.2.2.2.2.2.2.2.2.2.2.2.2.2.2.2.2.2.2.2.2.2.2.2.2.2.2.2.2.2.2.2.2.2.2.2.2.2.2.2.2.2.2.2.2.2.2.2.2.2.2.2.2.2.2.2.2.2.2
    have hp := hq.2
    rw [← hF] at hp
    refine ⟨hI2, ⟨fun i hi => ?_, fun i hi => ?_, ?_⟩, fun i hi => hun i (by simp only [List.mem_cons, List.not_mem_nil, or_false, not_or]; omega)⟩
    · exact iW_fr (hC.1 i hi) (hun _ (by simp only [List.mem_cons, List.not_mem_nil, or_false, not_or]; omega)) (hun _ (by simp only [List.mem_cons, List.not_mem_nil, or_false, not_or]; omega))
    · by_cases hd4 : i = i4
      · rw [hd4]; refine ⟨_, _, _, _, _, hU11, hU12, hU13, ?_⟩; first | exact hp
      · exact iD_fr (hC.2.1 i hi) (hun _ (by simp only [List.mem_cons, List.not_mem_nil, or_false, not_or]; omega)) (hun _ (by simp only [List.mem_cons, List.not_mem_nil, or_false, not_or]; omega)) (hun _ (by simp only [List.mem_cons, List.not_mem_nil, or_false, not_or]; omega))
    · exact iO_fr hC.2.2 (hun _ (by simp only [List.mem_cons, List.not_mem_nil, or_false, not_or]; omega)) (hun _ (by simp only [List.mem_cons, List.not_mem_nil, or_false, not_or]; omega)) (hun _ (by simp only [List.mem_cons, List.not_mem_nil, or_false, not_or]; omega))
  · rintro E u hZ9
    obtain ⟨c, hZ9⟩ := hZ9
    obtain ⟨hE, hZ9⟩ := hZ9
    obtain ⟨hc, hZ9⟩ := hZ9
    obtain ⟨hI2, hZ9⟩ := hZ9
    obtain ⟨hun, hZ9⟩ := hZ9
    obtain ⟨u0_0, hZ9⟩ := hZ9
    obtain ⟨u0_1, hZ9⟩ := hZ9
    obtain ⟨u1_0, hZ9⟩ := hZ9
    obtain ⟨u1_1, hZ9⟩ := hZ9
    obtain ⟨u2_0, hZ9⟩ := hZ9
    obtain ⟨u3_0, hZ9⟩ := hZ9
    obtain ⟨u3_1, hZ9⟩ := hZ9
    obtain ⟨u4_0, hZ9⟩ := hZ9
    obtain ⟨u5_0, hZ9⟩ := hZ9
    obtain ⟨u5_1, hZ9⟩ := hZ9
    obtain ⟨u6_0, hZ9⟩ := hZ9
    obtain ⟨u7_0, hZ9⟩ := hZ9
    obtain ⟨u7_1, hZ9⟩ := hZ9
    obtain ⟨u8_0, hZ9⟩ := hZ9
    obtain ⟨u9_0, hZ9⟩ := hZ9
    obtain ⟨u9_1, hZ9⟩ := hZ9
    obtain ⟨u10_0, hZ9⟩ := hZ9
    obtain ⟨u14_0, hZ9⟩ := hZ9
    obtain ⟨u14_1, hZ9⟩ := hZ9
    obtain ⟨u15_0, hZ9⟩ := hZ9
    obtain ⟨u15_1, hZ9⟩ := hZ9
    obtain ⟨u16_0, hZ9⟩ := hZ9
    obtain ⟨hU0, hZ9⟩ := hZ9
    obtain ⟨hU1, hZ9⟩ := hZ9
    obtain ⟨hU2, hZ9⟩ := hZ9
    obtain ⟨hU3, hZ9⟩ := hZ9
    obtain ⟨hU4, hZ9⟩ := hZ9
    obtain ⟨hU5, hZ9⟩ := hZ9
    obtain ⟨hU6, hZ9⟩ := hZ9
    obtain ⟨hU7, hZ9⟩ := hZ9
    obtain ⟨hU8, hZ9⟩ := hZ9
    obtain ⟨hU9, hZ9⟩ := hZ9
    obtain ⟨hU10, hZ9⟩ := hZ9
    obtain ⟨hU11, hZ9⟩ := hZ9
    obtain ⟨hU12, hZ9⟩ := hZ9
    obtain ⟨hU13, hF⟩ := hZ9
    have hp := hq.2
    rw [← hF] at hp
    have hk := K_NH_decimal_bt (x2 := x2) (x3 := x3) (x4 := x4) (x5 := x5) (t0_0 := t0_0) (t0_1 := t0_1) (t1_0 := t1_0) (t1_1 := t1_1) (t2_0 := t2_0) (t3_0 := t3_0) (t3_1 := t3_1) (t4_0 := t4_0) (t5_0 := t5_0) (t5_1 := t5_1) (t6_0 := t6_0) (t7_0 := t7_0) (t7_1 := t7_1) (t8_0 := t8_0) (t9_0 := t9_0) (t9_1 := t9_1) (t10_0 := t10_0) (t11_0 := t11_0) (t11_1 := t11_1) (t12_0 := t12_0) (t12_1 := t12_1) (t13_0 := t13_0) (t14_0 := t14_0) (t14_1 := t14_1) (t15_0 := t15_0) (t15_1 := t15_1) (t16_0 := t16_0)
    rw [← hF] at hk
    replace hk : kC12 c := hk
    refine ⟨⟨c, hE, hk.resolve_left hc⟩, hI2, ⟨fun i hi => ?_, fun i hi => ?_, ?_⟩, fun i hi => hun i (by simp only [List.mem_cons, List.not_mem_nil, or_false, not_or]; omega)⟩
    · exact iW_fr (hC.1 i hi) (hun _ (by simp only [List.mem_cons, List.not_mem_nil, or_false, not_or]; omega)) (hun _ (by simp only [List.mem_cons, List.not_mem_nil, or_false, not_or]; omega))
    · by_cases hd4 : i = i4
      · rw [hd4]; refine ⟨_, _, _, _, _, hU11, hU12, hU13, ?_⟩; first | exact hp
      · exact iD_fr (hC.2.1 i hi) (hun _ (by simp only [List.mem_cons, List.not_mem_nil, or_false, not_or]; omega)) (hun _ (by simp only [List.mem_cons, List.not_mem_nil, or_false, not_or]; omega)) (hun _ (by simp only [List.mem_cons, List.not_mem_nil, or_false, not_or]; omega))
    · exact iO_fr hC.2.2 (hun _ (by simp only [List.mem_cons, List.not_mem_nil, or_false, not_or]; omega)) (hun _ (by simp only [List.mem_cons, List.not_mem_nil, or_false, not_or]; omega)) (hun _ (by simp only [List.mem_cons, List.not_mem_nil, or_false, not_or]; omega))
set_option maxRecDepth 100000 in
theorem CV_decimal_abt (l : Launch) (D : va_G) (g : Nat → ClassId) (q : Nat → Nat) (ws : va_W) (x2 : Int32) (x3 : Int32) (x4 : Int32) (x5 : Int32) (i3 : Nat) (hi3 : i3 < 10) (e3 : x3.toNatClampNeg < 10 → i3 = x3.toNatClampNeg) (e4 : x4.toNatClampNeg < 10 → i3 = x4.toNatClampNeg) (e5 : x5.toNatClampNeg < 10 → i3 = x5.toNatClampNeg) (hlt : l.stackTraces = false) (hI : q_I (nsh g q) q ws) (hC : iC g q ws) : ∀ sz, q_Mx l y_NH_decimal prog_1_method_11_code 7 none 9 3 18 D g [.ref (q 0), .int x2, .int x3, .int x4, .int x5] ws sz (va_Qv (fun u => iP g q ws u) (q_B D g (va_A ws sz)) (va_A ws sz)) (fun E u => (∃ c : Int32, E = qE c ∧ (c = 1 ∨ c = 2)) ∧ iP g q ws u) := by
  intro sz
  obtain ⟨t0_0, t0_1, hT0, bT0⟩ := n_o30 hI
  obtain ⟨t1_0, t1_1, hT1, bT1⟩ := q_bigO hI (n_b10 g q)
  obtain ⟨t2_0, hT2, bT2⟩ := n_ai hI (n_s11 g q)
  obtain ⟨t3_0, t3_1, hT3, bT3⟩ := q_bigO hI (n_b12 g q)
  obtain ⟨t4_0, hT4, bT4⟩ := n_ai hI (n_s13 g q)
  obtain ⟨t5_0, t5_1, hT5, bT5⟩ := q_bigO hI (n_b22 g q)
  obtain ⟨t6_0, hT6, bT6⟩ := n_ai hI (n_s23 g q)
  obtain ⟨t7_0, t7_1, hT7, bT7⟩ := q_bigO hI (n_b24 g q)
  obtain ⟨t8_0, hT8, bT8⟩ := n_ai hI (n_s25 g q)
  obtain ⟨t9_0, t9_1, hT9, bT9⟩ := q_bigO hI (n_b20 g q)
  obtain ⟨t10_0, hT10, bT10⟩ := n_ai hI (n_s21 g q)
  obtain ⟨t11_0, hZ9⟩ := hC.2.1 i3 hi3
  obtain ⟨t11_1, hZ9⟩ := hZ9
  obtain ⟨t12_0, hZ9⟩ := hZ9
  obtain ⟨t12_1, hZ9⟩ := hZ9
  obtain ⟨t13_0, hZ9⟩ := hZ9
  obtain ⟨hT11, hZ9⟩ := hZ9
  obtain ⟨hT12, hZ9⟩ := hZ9
  obtain ⟨hT13, hZ9⟩ := hZ9
  obtain ⟨vd3, hbd3⟩ := hZ9
  have hq := T_decimal_abt (x2 := x2) (x3 := x3) (x4 := x4) (x5 := x5) (t0_0 := t0_0) (t0_1 := t0_1) (t1_0 := t1_0) (t1_1 := t1_1) (t2_0 := t2_0) (t3_0 := t3_0) (t3_1 := t3_1) (t4_0 := t4_0) (t5_0 := t5_0) (t5_1 := t5_1) (t6_0 := t6_0) (t7_0 := t7_0) (t7_1 := t7_1) (t8_0 := t8_0) (t9_0 := t9_0) (t9_1 := t9_1) (t10_0 := t10_0) (t11_0 := t11_0) (t11_1 := t11_1) (t12_0 := t12_0) (t12_1 := t12_1) (t13_0 := t13_0) hbd3
  refine q_MxV (X_NH_decimal_abt l D g q ws x2 x3 x4 x5 (68 + 5 * i3) (n_d g q hi3) (by omega) (fun h => by have z := e3 h; omega) (fun h => by have z := e4 h; omega) (fun h => by have z := e5 h; omega) hlt hI t0_0 t0_1 hT0 t1_0 t1_1 hT1 t2_0 hT2 t3_0 t3_1 hT3 t4_0 hT4 t5_0 t5_1 hT5 t6_0 hT6 t7_0 t7_1 hT7 t8_0 hT8 t9_0 t9_1 hT9 t10_0 hT10 t11_0 t11_1 hT11 t12_0 t12_1 hT12 t13_0 hT13 ⟨trivial, hq.1⟩ sz) ?_ ?_
  · rintro u hZ9
    obtain ⟨hI2, hZ9⟩ := hZ9
    obtain ⟨hun, hZ9⟩ := hZ9
    obtain ⟨u0_0, hZ9⟩ := hZ9
    obtain ⟨u0_1, hZ9⟩ := hZ9
    obtain ⟨u1_0, hZ9⟩ := hZ9
    obtain ⟨u1_1, hZ9⟩ := hZ9
    obtain ⟨u2_0, hZ9⟩ := hZ9
    obtain ⟨u3_0, hZ9⟩ := hZ9
    obtain ⟨u3_1, hZ9⟩ := hZ9
    obtain ⟨u4_0, hZ9⟩ := hZ9
    obtain ⟨u5_0, hZ9⟩ := hZ9
    obtain ⟨u5_1, hZ9⟩ := hZ9
    obtain ⟨u6_0, hZ9⟩ := hZ9
    obtain ⟨u9_0, hZ9⟩ := hZ9
    obtain ⟨u9_1, hZ9⟩ := hZ9
    obtain ⟨u10_0, hZ9⟩ := hZ9
    obtain ⟨u11_0, hZ9⟩ := hZ9
    obtain ⟨u11_1, hZ9⟩ := hZ9
    obtain ⟨u12_0, hZ9⟩ := hZ9
    obtain ⟨u12_1, hZ9⟩ := hZ9
    obtain ⟨u13_0, hZ9⟩ := hZ9
    obtain ⟨hU0, hZ9⟩ := hZ9
    obtain ⟨hU1, hZ9⟩ := hZ9
    obtain ⟨hU2, hZ9⟩ := hZ9
    obtain ⟨hU3, hZ9⟩ := hZ9
    obtain ⟨hU4, hZ9⟩ := hZ9
    obtain ⟨hU5, hZ9⟩ := hZ9
    obtain ⟨hU6, hZ9⟩ := hZ9
    obtain ⟨hU7, hZ9⟩ := hZ9
    obtain ⟨hU8, hZ9⟩ := hZ9
    obtain ⟨hU9, hZ9⟩ := hZ9
    obtain ⟨hU10, hZ9⟩ := hZ9
    obtain ⟨hU11, hR⟩ := hZ9
    have hF := hR.2.2.2.2.2.2.2.2.2.2.2.2.2.2.2.2.2.2.2.2.2.2.2.2.2.2.2.2.2.2.2.2.2.2.2.2.2.2.2.2.2.2.2.2.2.2.2.2.2.2.2.2.2.2.2.2.2.2.2.2.2.2.2.2.2.2.2.2.2.2.2.2.2.2.2.2.2.2.2.2.2.2.2.2.2.2.2.2.2.2.2.2.2.2.2.2.2.2.2.2.2.2
    have hp := hq.2
    rw [← hF] at hp
    refine ⟨hI2, ⟨fun i hi => ?_, fun i hi => ?_, ?_⟩, fun i hi => hun i (by simp only [List.mem_cons, List.not_mem_nil, or_false, not_or]; omega)⟩
    · exact iW_fr (hC.1 i hi) (hun _ (by simp only [List.mem_cons, List.not_mem_nil, or_false, not_or]; omega)) (hun _ (by simp only [List.mem_cons, List.not_mem_nil, or_false, not_or]; omega))
    · by_cases hd3 : i = i3
      · rw [hd3]; refine ⟨_, _, _, _, _, hU9, hU10, hU11, ?_⟩; first | exact hp
      · exact iD_fr (hC.2.1 i hi) (hun _ (by simp only [List.mem_cons, List.not_mem_nil, or_false, not_or]; omega)) (hun _ (by simp only [List.mem_cons, List.not_mem_nil, or_false, not_or]; omega)) (hun _ (by simp only [List.mem_cons, List.not_mem_nil, or_false, not_or]; omega))
    · exact iO_fr hC.2.2 (hun _ (by simp only [List.mem_cons, List.not_mem_nil, or_false, not_or]; omega)) (hun _ (by simp only [List.mem_cons, List.not_mem_nil, or_false, not_or]; omega)) (hun _ (by simp only [List.mem_cons, List.not_mem_nil, or_false, not_or]; omega))
  · rintro E u hZ9
    obtain ⟨c, hZ9⟩ := hZ9
    obtain ⟨hE, hZ9⟩ := hZ9
    obtain ⟨hc, hZ9⟩ := hZ9
    obtain ⟨hI2, hZ9⟩ := hZ9
    obtain ⟨hun, hZ9⟩ := hZ9
    obtain ⟨u0_0, hZ9⟩ := hZ9
    obtain ⟨u0_1, hZ9⟩ := hZ9
    obtain ⟨u1_0, hZ9⟩ := hZ9
    obtain ⟨u1_1, hZ9⟩ := hZ9
    obtain ⟨u2_0, hZ9⟩ := hZ9
    obtain ⟨u3_0, hZ9⟩ := hZ9
    obtain ⟨u3_1, hZ9⟩ := hZ9
    obtain ⟨u4_0, hZ9⟩ := hZ9
    obtain ⟨u5_0, hZ9⟩ := hZ9
    obtain ⟨u5_1, hZ9⟩ := hZ9
    obtain ⟨u6_0, hZ9⟩ := hZ9
    obtain ⟨u9_0, hZ9⟩ := hZ9
    obtain ⟨u9_1, hZ9⟩ := hZ9
    obtain ⟨u10_0, hZ9⟩ := hZ9
    obtain ⟨u11_0, hZ9⟩ := hZ9
    obtain ⟨u11_1, hZ9⟩ := hZ9
    obtain ⟨u12_0, hZ9⟩ := hZ9
    obtain ⟨u12_1, hZ9⟩ := hZ9
    obtain ⟨u13_0, hZ9⟩ := hZ9
    obtain ⟨hU0, hZ9⟩ := hZ9
    obtain ⟨hU1, hZ9⟩ := hZ9
    obtain ⟨hU2, hZ9⟩ := hZ9
    obtain ⟨hU3, hZ9⟩ := hZ9
    obtain ⟨hU4, hZ9⟩ := hZ9
    obtain ⟨hU5, hZ9⟩ := hZ9
    obtain ⟨hU6, hZ9⟩ := hZ9
    obtain ⟨hU7, hZ9⟩ := hZ9
    obtain ⟨hU8, hZ9⟩ := hZ9
    obtain ⟨hU9, hZ9⟩ := hZ9
    obtain ⟨hU10, hZ9⟩ := hZ9
    obtain ⟨hU11, hF⟩ := hZ9
    have hp := hq.2
    rw [← hF] at hp
    have hk := K_NH_decimal_abt (x2 := x2) (x3 := x3) (x4 := x4) (x5 := x5) (t0_0 := t0_0) (t0_1 := t0_1) (t1_0 := t1_0) (t1_1 := t1_1) (t2_0 := t2_0) (t3_0 := t3_0) (t3_1 := t3_1) (t4_0 := t4_0) (t5_0 := t5_0) (t5_1 := t5_1) (t6_0 := t6_0) (t7_0 := t7_0) (t7_1 := t7_1) (t8_0 := t8_0) (t9_0 := t9_0) (t9_1 := t9_1) (t10_0 := t10_0) (t11_0 := t11_0) (t11_1 := t11_1) (t12_0 := t12_0) (t12_1 := t12_1) (t13_0 := t13_0)
    rw [← hF] at hk
    replace hk : kC12 c := hk
    refine ⟨⟨c, hE, hk.resolve_left hc⟩, hI2, ⟨fun i hi => ?_, fun i hi => ?_, ?_⟩, fun i hi => hun i (by simp only [List.mem_cons, List.not_mem_nil, or_false, not_or]; omega)⟩
    · exact iW_fr (hC.1 i hi) (hun _ (by simp only [List.mem_cons, List.not_mem_nil, or_false, not_or]; omega)) (hun _ (by simp only [List.mem_cons, List.not_mem_nil, or_false, not_or]; omega))
    · by_cases hd3 : i = i3
      · rw [hd3]; refine ⟨_, _, _, _, _, hU9, hU10, hU11, ?_⟩; first | exact hp
      · exact iD_fr (hC.2.1 i hi) (hun _ (by simp only [List.mem_cons, List.not_mem_nil, or_false, not_or]; omega)) (hun _ (by simp only [List.mem_cons, List.not_mem_nil, or_false, not_or]; omega)) (hun _ (by simp only [List.mem_cons, List.not_mem_nil, or_false, not_or]; omega))
    · exact iO_fr hC.2.2 (hun _ (by simp only [List.mem_cons, List.not_mem_nil, or_false, not_or]; omega)) (hun _ (by simp only [List.mem_cons, List.not_mem_nil, or_false, not_or]; omega)) (hun _ (by simp only [List.mem_cons, List.not_mem_nil, or_false, not_or]; omega))

set_option maxRecDepth 100000 in
theorem CV_divide (l : Launch) (D : va_G) (g : Nat → ClassId) (q : Nat → Nat) (ws : va_W) (x2 : Int32) (x3 : Int32) (x4 : Int32) (x5 : Int32) (x6 : Int32) (i2 : Nat) (hi2 : i2 < 10) (i3 : Nat) (hi3 : i3 < 10) (i4 : Nat) (hi4 : i4 < 10) (e2 : x2.toNatClampNeg < 10 → i2 = x2.toNatClampNeg) (e3 : x3.toNatClampNeg < 10 → i3 = x3.toNatClampNeg) (e4 : x4.toNatClampNeg < 10 → i4 = x4.toNatClampNeg) (nei2i3 : i2 ≠ i3) (nei3i4 : i3 ≠ i4) (hlt : l.stackTraces = false) (hI : q_I (nsh g q) q ws) (hC : iC g q ws) : ∀ sz, q_Mx l y_NH_divide prog_1_method_13_code 6 none 9 4 24 D g [.ref (q 0), .int x2, .int x3, .int x4, .int x5, .int x6] ws sz (va_Qv (fun u => iP g q ws u) (q_B D g (va_A ws sz)) (va_A ws sz)) (fun E u => (∃ c : Int32, E = qE c ∧ (c = 1 ∨ c = 2)) ∧ iP g q ws u) := by
  intro sz
  obtain ⟨t0_0, t0_1, hT0, bT0⟩ := n_o30 hI
  obtain ⟨t1_0, t1_1, hT1, bT1⟩ := q_bigO hI (n_b10 g q)
  obtain ⟨t2_0, hT2, bT2⟩ := n_ai hI (n_s11 g q)
  obtain ⟨t3_0, t3_1, hT3, bT3⟩ := q_bigO hI (n_b12 g q)
  obtain ⟨t4_0, hT4, bT4⟩ := n_ai hI (n_s13 g q)
  obtain ⟨t5_0, t5_1, hT5, bT5⟩ := q_bigO hI (n_b22 g q)
  obtain ⟨t6_0, hT6, bT6⟩ := n_ai hI (n_s23 g q)
  obtain ⟨t7_0, t7_1, hT7, bT7⟩ := q_bigO hI (n_b20 g q)
  obtain ⟨t8_0, hT8, bT8⟩ := n_ai hI (n_s21 g q)
  obtain ⟨t9_0, hZ9⟩ := hC.2.1 i2 hi2
  obtain ⟨t9_1, hZ9⟩ := hZ9
  obtain ⟨t10_0, hZ9⟩ := hZ9
  obtain ⟨t10_1, hZ9⟩ := hZ9
  obtain ⟨t11_0, hZ9⟩ := hZ9
  obtain ⟨hT9, hZ9⟩ := hZ9
  obtain ⟨hT10, hZ9⟩ := hZ9
  obtain ⟨hT11, hZ9⟩ := hZ9
  obtain ⟨vd2, hbd2⟩ := hZ9
  obtain ⟨t12_0, hZ9⟩ := hC.2.1 i3 hi3
  obtain ⟨t12_1, hZ9⟩ := hZ9
  obtain ⟨t13_0, hZ9⟩ := hZ9
  obtain ⟨t13_1, hZ9⟩ := hZ9
  obtain ⟨t14_0, hZ9⟩ := hZ9
  obtain ⟨hT12, hZ9⟩ := hZ9
  obtain ⟨hT13, hZ9⟩ := hZ9
  obtain ⟨hT14, hZ9⟩ := hZ9
  obtain ⟨vd3, hbd3⟩ := hZ9
  obtain ⟨t15_0, hZ9⟩ := hC.2.1 i4 hi4
  obtain ⟨t15_1, hZ9⟩ := hZ9
  obtain ⟨t16_0, hZ9⟩ := hZ9
  obtain ⟨t16_1, hZ9⟩ := hZ9
  obtain ⟨t17_0, hZ9⟩ := hZ9
  obtain ⟨hT15, hZ9⟩ := hZ9
  obtain ⟨hT16, hZ9⟩ := hZ9
  obtain ⟨hT17, hZ9⟩ := hZ9
  obtain ⟨vd4, hbd4⟩ := hZ9
  have hq := T_divide (x2 := x2) (x3 := x3) (x4 := x4) (x5 := x5) (x6 := x6) (t0_0 := t0_0) (t0_1 := t0_1) (t1_0 := t1_0) (t1_1 := t1_1) (t2_0 := t2_0) (t3_0 := t3_0) (t3_1 := t3_1) (t4_0 := t4_0) (t5_0 := t5_0) (t5_1 := t5_1) (t6_0 := t6_0) (t7_0 := t7_0) (t7_1 := t7_1) (t8_0 := t8_0) (t9_0 := t9_0) (t9_1 := t9_1) (t10_0 := t10_0) (t10_1 := t10_1) (t11_0 := t11_0) (t12_0 := t12_0) (t12_1 := t12_1) (t13_0 := t13_0) (t13_1 := t13_1) (t14_0 := t14_0) (t15_0 := t15_0) (t15_1 := t15_1) (t16_0 := t16_0) (t16_1 := t16_1) (t17_0 := t17_0) hbd2 hbd3 ⟨_, hbd4⟩
  refine q_MxV (X_NH_divide l D g q ws x2 x3 x4 x5 x6 (68 + 5 * i2) (n_d g q hi2) (by omega) (fun h => by have z := e2 h; omega) (68 + 5 * i3) (n_d g q hi3) (by omega) (fun h => by have z := e3 h; omega) (68 + 5 * i4) (n_d g q hi4) (by omega) (fun h => by have z := e4 h; omega) (by omega) (by omega) (by omega) (by omega) (by omega) (by omega) (by omega) (by omega) (by omega) (by omega) hlt hI t0_0 t0_1 hT0 t1_0 t1_1 hT1 t2_0 hT2 t3_0 t3_1 hT3 t4_0 hT4 t5_0 t5_1 hT5 t6_0 hT6 t7_0 t7_1 hT7 t8_0 hT8 t9_0 t9_1 hT9 t10_0 t10_1 hT10 t11_0 hT11 t12_0 t12_1 hT12 t13_0 t13_1 hT13 t14_0 hT14 t15_0 t15_1 hT15 t16_0 t16_1 hT16 t17_0 hT17 ⟨trivial, hq.1⟩ sz) ?_ ?_
  · rintro u hZ9
    obtain ⟨hI2, hZ9⟩ := hZ9
    obtain ⟨hun, hZ9⟩ := hZ9
    obtain ⟨u0_0, hZ9⟩ := hZ9
    obtain ⟨u0_1, hZ9⟩ := hZ9
    obtain ⟨u1_0, hZ9⟩ := hZ9
    obtain ⟨u1_1, hZ9⟩ := hZ9
    obtain ⟨u2_0, hZ9⟩ := hZ9
    obtain ⟨u3_0, hZ9⟩ := hZ9
    obtain ⟨u3_1, hZ9⟩ := hZ9
    obtain ⟨u4_0, hZ9⟩ := hZ9
    obtain ⟨u5_0, hZ9⟩ := hZ9
    obtain ⟨u5_1, hZ9⟩ := hZ9
    obtain ⟨u6_0, hZ9⟩ := hZ9
    obtain ⟨u7_0, hZ9⟩ := hZ9
    obtain ⟨u7_1, hZ9⟩ := hZ9
    obtain ⟨u8_0, hZ9⟩ := hZ9
    obtain ⟨u13_0, hZ9⟩ := hZ9
    obtain ⟨u13_1, hZ9⟩ := hZ9
    obtain ⟨u14_0, hZ9⟩ := hZ9
    obtain ⟨u15_0, hZ9⟩ := hZ9
    obtain ⟨u15_1, hZ9⟩ := hZ9
    obtain ⟨u16_0, hZ9⟩ := hZ9
    obtain ⟨u16_1, hZ9⟩ := hZ9
    obtain ⟨u17_0, hZ9⟩ := hZ9
    obtain ⟨hU0, hZ9⟩ := hZ9
    obtain ⟨hU1, hZ9⟩ := hZ9
    obtain ⟨hU2, hZ9⟩ := hZ9
    obtain ⟨hU3, hZ9⟩ := hZ9
    obtain ⟨hU4, hZ9⟩ := hZ9
    obtain ⟨hU5, hZ9⟩ := hZ9
    obtain ⟨hU6, hZ9⟩ := hZ9
    obtain ⟨hU7, hZ9⟩ := hZ9
    obtain ⟨hU8, hZ9⟩ := hZ9
    obtain ⟨hU9, hZ9⟩ := hZ9
    obtain ⟨hU10, hZ9⟩ := hZ9
    obtain ⟨hU11, hZ9⟩ := hZ9
    obtain ⟨hU12, hZ9⟩ := hZ9
    obtain ⟨hU13, hR⟩ := hZ9
    have hF := hR.2.2.2.2.2.2.2.2.2.2.2.2.2.2.2.2.2.2.2.2.2.2.2.2.2.2.2.2.2.2.2.2.2.2.2.2.2.2.2.2.2.2.2.2.2.2.2.2.2.2.2.2.2.2.2.2.2.2.2.2.2.2.2.2.2.2.2.2.2.2.2.2.2.2.2.2.2.2.2.2.2.2.2.2.2.2.2.2.2.2.2.2.2.2.2.2.2.2.2.2.2.2.2.2.2.2.2.2
    have hp := hq.2
    rw [← hF] at hp
    refine ⟨hI2, ⟨fun i hi => ?_, fun i hi => ?_, ?_⟩, fun i hi => hun i (by simp only [List.mem_cons, List.not_mem_nil, or_false, not_or]; omega)⟩
    · exact iW_fr (hC.1 i hi) (hun _ (by simp only [List.mem_cons, List.not_mem_nil, or_false, not_or]; omega)) (hun _ (by simp only [List.mem_cons, List.not_mem_nil, or_false, not_or]; omega))
    · by_cases hd3 : i = i3
      · rw [hd3]; refine ⟨_, _, _, _, _, ((hun _ (by simp only [List.mem_cons, List.not_mem_nil, or_false, not_or]; omega)).trans hT12), hU9, hU10, ?_⟩; first | exact ⟨_, hp.2⟩
      · by_cases hd4 : i = i4
        · rw [hd4]; refine ⟨_, _, _, _, _, hU11, hU12, hU13, ?_⟩; first | exact hp.1
        · exact iD_fr (hC.2.1 i hi) (hun _ (by simp only [List.mem_cons, List.not_mem_nil, or_false, not_or]; omega)) (hun _ (by simp only [List.mem_cons, List.not_mem_nil, or_false, not_or]; omega)) (hun _ (by simp only [List.mem_cons, List.not_mem_nil, or_false, not_or]; omega))
    · exact iO_fr hC.2.2 (hun _ (by simp only [List.mem_cons, List.not_mem_nil, or_false, not_or]; omega)) (hun _ (by simp only [List.mem_cons, List.not_mem_nil, or_false, not_or]; omega)) (hun _ (by simp only [List.mem_cons, List.not_mem_nil, or_false, not_or]; omega))
  · rintro E u hZ9
    obtain ⟨c, hZ9⟩ := hZ9
    obtain ⟨hE, hZ9⟩ := hZ9
    obtain ⟨hc, hZ9⟩ := hZ9
    obtain ⟨hI2, hZ9⟩ := hZ9
    obtain ⟨hun, hZ9⟩ := hZ9
    obtain ⟨u0_0, hZ9⟩ := hZ9
    obtain ⟨u0_1, hZ9⟩ := hZ9
    obtain ⟨u1_0, hZ9⟩ := hZ9
    obtain ⟨u1_1, hZ9⟩ := hZ9
    obtain ⟨u2_0, hZ9⟩ := hZ9
    obtain ⟨u3_0, hZ9⟩ := hZ9
    obtain ⟨u3_1, hZ9⟩ := hZ9
    obtain ⟨u4_0, hZ9⟩ := hZ9
    obtain ⟨u5_0, hZ9⟩ := hZ9
    obtain ⟨u5_1, hZ9⟩ := hZ9
    obtain ⟨u6_0, hZ9⟩ := hZ9
    obtain ⟨u7_0, hZ9⟩ := hZ9
    obtain ⟨u7_1, hZ9⟩ := hZ9
    obtain ⟨u8_0, hZ9⟩ := hZ9
    obtain ⟨u13_0, hZ9⟩ := hZ9
    obtain ⟨u13_1, hZ9⟩ := hZ9
    obtain ⟨u14_0, hZ9⟩ := hZ9
    obtain ⟨u15_0, hZ9⟩ := hZ9
    obtain ⟨u15_1, hZ9⟩ := hZ9
    obtain ⟨u16_0, hZ9⟩ := hZ9
    obtain ⟨u16_1, hZ9⟩ := hZ9
    obtain ⟨u17_0, hZ9⟩ := hZ9
    obtain ⟨hU0, hZ9⟩ := hZ9
    obtain ⟨hU1, hZ9⟩ := hZ9
    obtain ⟨hU2, hZ9⟩ := hZ9
    obtain ⟨hU3, hZ9⟩ := hZ9
    obtain ⟨hU4, hZ9⟩ := hZ9
    obtain ⟨hU5, hZ9⟩ := hZ9
    obtain ⟨hU6, hZ9⟩ := hZ9
    obtain ⟨hU7, hZ9⟩ := hZ9
    obtain ⟨hU8, hZ9⟩ := hZ9
    obtain ⟨hU9, hZ9⟩ := hZ9
    obtain ⟨hU10, hZ9⟩ := hZ9
    obtain ⟨hU11, hZ9⟩ := hZ9
    obtain ⟨hU12, hZ9⟩ := hZ9
    obtain ⟨hU13, hF⟩ := hZ9
    have hp := hq.2
    rw [← hF] at hp
    have hk := K_NH_divide (x2 := x2) (x3 := x3) (x4 := x4) (x5 := x5) (x6 := x6) (t0_0 := t0_0) (t0_1 := t0_1) (t1_0 := t1_0) (t1_1 := t1_1) (t2_0 := t2_0) (t3_0 := t3_0) (t3_1 := t3_1) (t4_0 := t4_0) (t5_0 := t5_0) (t5_1 := t5_1) (t6_0 := t6_0) (t7_0 := t7_0) (t7_1 := t7_1) (t8_0 := t8_0) (t9_0 := t9_0) (t9_1 := t9_1) (t10_0 := t10_0) (t10_1 := t10_1) (t11_0 := t11_0) (t12_0 := t12_0) (t12_1 := t12_1) (t13_0 := t13_0) (t13_1 := t13_1) (t14_0 := t14_0) (t15_0 := t15_0) (t15_1 := t15_1) (t16_0 := t16_0) (t16_1 := t16_1) (t17_0 := t17_0)
    rw [← hF] at hk
    replace hk : kC12 c := hk
    refine ⟨⟨c, hE, hk.resolve_left hc⟩, hI2, ⟨fun i hi => ?_, fun i hi => ?_, ?_⟩, fun i hi => hun i (by simp only [List.mem_cons, List.not_mem_nil, or_false, not_or]; omega)⟩
    · exact iW_fr (hC.1 i hi) (hun _ (by simp only [List.mem_cons, List.not_mem_nil, or_false, not_or]; omega)) (hun _ (by simp only [List.mem_cons, List.not_mem_nil, or_false, not_or]; omega))
    · by_cases hd3 : i = i3
      · rw [hd3]; refine ⟨_, _, _, _, _, ((hun _ (by simp only [List.mem_cons, List.not_mem_nil, or_false, not_or]; omega)).trans hT12), hU9, hU10, ?_⟩; first | exact ⟨_, hp.2⟩
      · by_cases hd4 : i = i4
        · rw [hd4]; refine ⟨_, _, _, _, _, hU11, hU12, hU13, ?_⟩; first | exact hp.1
        · exact iD_fr (hC.2.1 i hi) (hun _ (by simp only [List.mem_cons, List.not_mem_nil, or_false, not_or]; omega)) (hun _ (by simp only [List.mem_cons, List.not_mem_nil, or_false, not_or]; omega)) (hun _ (by simp only [List.mem_cons, List.not_mem_nil, or_false, not_or]; omega))
    · exact iO_fr hC.2.2 (hun _ (by simp only [List.mem_cons, List.not_mem_nil, or_false, not_or]; omega)) (hun _ (by simp only [List.mem_cons, List.not_mem_nil, or_false, not_or]; omega)) (hun _ (by simp only [List.mem_cons, List.not_mem_nil, or_false, not_or]; omega))
set_option maxRecDepth 100000 in
theorem CV_divide_ab (l : Launch) (D : va_G) (g : Nat → ClassId) (q : Nat → Nat) (ws : va_W) (x2 : Int32) (x3 : Int32) (x4 : Int32) (x5 : Int32) (x6 : Int32) (i2 : Nat) (hi2 : i2 < 10) (i4 : Nat) (hi4 : i4 < 10) (e2 : x2.toNatClampNeg < 10 → i2 = x2.toNatClampNeg) (e3 : x3.toNatClampNeg < 10 → i2 = x3.toNatClampNeg) (e4 : x4.toNatClampNeg < 10 → i4 = x4.toNatClampNeg) (nei2i4 : i2 ≠ i4) (hlt : l.stackTraces = false) (hI : q_I (nsh g q) q ws) (hC : iC g q ws) : ∀ sz, q_Mx l y_NH_divide prog_1_method_13_code 6 none 9 4 24 D g [.ref (q 0), .int x2, .int x3, .int x4, .int x5, .int x6] ws sz (va_Qv (fun u => iP g q ws u) (q_B D g (va_A ws sz)) (va_A ws sz)) (fun E u => (∃ c : Int32, E = qE c ∧ (c = 1 ∨ c = 2)) ∧ iP g q ws u) := by
  intro sz
  obtain ⟨t0_0, t0_1, hT0, bT0⟩ := n_o30 hI
  obtain ⟨t1_0, t1_1, hT1, bT1⟩ := q_bigO hI (n_b10 g q)
  obtain ⟨t2_0, hT2, bT2⟩ := n_ai hI (n_s11 g q)
  obtain ⟨t3_0, t3_1, hT3, bT3⟩ := q_bigO hI (n_b12 g q)
  obtain ⟨t4_0, hT4, bT4⟩ := n_ai hI (n_s13 g q)
  obtain ⟨t5_0, t5_1, hT5, bT5⟩ := q_bigO hI (n_b22 g q)
  obtain ⟨t6_0, hT6, bT6⟩ := n_ai hI (n_s23 g q)
  obtain ⟨t7_0, t7_1, hT7, bT7⟩ := q_bigO hI (n_b20 g q)
  obtain ⟨t8_0, hT8, bT8⟩ := n_ai hI (n_s21 g q)
  obtain ⟨t9_0, hZ9⟩ := hC.2.1 i2 hi2
  obtain ⟨t9_1, hZ9⟩ := hZ9
  obtain ⟨t10_0, hZ9⟩ := hZ9
  obtain ⟨t10_1, hZ9⟩ := hZ9
  obtain ⟨t11_0, hZ9⟩ := hZ9
  obtain ⟨hT9, hZ9⟩ := hZ9
  obtain ⟨hT10, hZ9⟩ := hZ9
  obtain ⟨hT11, hZ9⟩ := hZ9
  obtain ⟨vd2, hbd2⟩ := hZ9
  obtain ⟨t12_0, hZ9⟩ := hC.2.1 i4 hi4
  obtain ⟨t12_1, hZ9⟩ := hZ9
  obtain ⟨t13_0, hZ9⟩ := hZ9
  obtain ⟨t13_1, hZ9⟩ := hZ9
  obtain ⟨t14_0, hZ9⟩ := hZ9
  obtain ⟨hT12, hZ9⟩ := hZ9
  obtain ⟨hT13, hZ9⟩ := hZ9
  obtain ⟨hT14, hZ9⟩ := hZ9
  obtain ⟨vd4, hbd4⟩ := hZ9
  have hq := T_divide_ab (x2 := x2) (x3 := x3) (x4 := x4) (x5 := x5) (x6 := x6) (t0_0 := t0_0) (t0_1 := t0_1) (t1_0 := t1_0) (t1_1 := t1_1) (t2_0 := t2_0) (t3_0 := t3_0) (t3_1 := t3_1) (t4_0 := t4_0) (t5_0 := t5_0) (t5_1 := t5_1) (t6_0 := t6_0) (t7_0 := t7_0) (t7_1 := t7_1) (t8_0 := t8_0) (t9_0 := t9_0) (t9_1 := t9_1) (t10_0 := t10_0) (t10_1 := t10_1) (t11_0 := t11_0) (t12_0 := t12_0) (t12_1 := t12_1) (t13_0 := t13_0) (t13_1 := t13_1) (t14_0 := t14_0) hbd2 ⟨_, hbd4⟩
  refine q_MxV (X_NH_divide_ab l D g q ws x2 x3 x4 x5 x6 (68 + 5 * i2) (n_d g q hi2) (by omega) (fun h => by have z := e2 h; omega) (fun h => by have z := e3 h; omega) (68 + 5 * i4) (n_d g q hi4) (by omega) (fun h => by have z := e4 h; omega) (by omega) (by omega) (by omega) (by omega) (by omega) hlt hI t0_0 t0_1 hT0 t1_0 t1_1 hT1 t2_0 hT2 t3_0 t3_1 hT3 t4_0 hT4 t5_0 t5_1 hT5 t6_0 hT6 t7_0 t7_1 hT7 t8_0 hT8 t9_0 t9_1 hT9 t10_0 t10_1 hT10 t11_0 hT11 t12_0 t12_1 hT12 t13_0 t13_1 hT13 t14_0 hT14 ⟨trivial, hq.1⟩ sz) ?_ ?_
  · rintro u hZ9
    obtain ⟨hI2, hZ9⟩ := hZ9
    obtain ⟨hun, hZ9⟩ := hZ9
    obtain ⟨u0_0, hZ9⟩ := hZ9
    obtain ⟨u0_1, hZ9⟩ := hZ9
    obtain ⟨u1_0, hZ9⟩ := hZ9
    obtain ⟨u1_1, hZ9⟩ := hZ9
    obtain ⟨u2_0, hZ9⟩ := hZ9
    obtain ⟨u3_0, hZ9⟩ := hZ9
    obtain ⟨u3_1, hZ9⟩ := hZ9
    obtain ⟨u4_0, hZ9⟩ := hZ9
    obtain ⟨u5_0, hZ9⟩ := hZ9
    obtain ⟨u5_1, hZ9⟩ := hZ9
    obtain ⟨u6_0, hZ9⟩ := hZ9
    obtain ⟨u7_0, hZ9⟩ := hZ9
    obtain ⟨u7_1, hZ9⟩ := hZ9
    obtain ⟨u8_0, hZ9⟩ := hZ9
    obtain ⟨u10_0, hZ9⟩ := hZ9
    obtain ⟨u10_1, hZ9⟩ := hZ9
    obtain ⟨u11_0, hZ9⟩ := hZ9
    obtain ⟨u12_0, hZ9⟩ := hZ9
    obtain ⟨u12_1, hZ9⟩ := hZ9
    obtain ⟨u13_0, hZ9⟩ := hZ9
    obtain ⟨u13_1, hZ9⟩ := hZ9
    obtain ⟨u14_0, hZ9⟩ := hZ9
    obtain ⟨hU0, hZ9⟩ := hZ9
    obtain ⟨hU1, hZ9⟩ := hZ9
    obtain ⟨hU2, hZ9⟩ := hZ9
    obtain ⟨hU3, hZ9⟩ := hZ9
    obtain ⟨hU4, hZ9⟩ := hZ9
    obtain ⟨hU5, hZ9⟩ := hZ9
    obtain ⟨hU6, hZ9⟩ := hZ9
    obtain ⟨hU7, hZ9⟩ := hZ9
    obtain ⟨hU8, hZ9⟩ := hZ9
    obtain ⟨hU9, hZ9⟩ := hZ9
    obtain ⟨hU10, hZ9⟩ := hZ9
    obtain ⟨hU11, hZ9⟩ := hZ9
    obtain ⟨hU12, hZ9⟩ := hZ9
    obtain ⟨hU13, hR⟩ := hZ9
    have hF := hR.2.2.2.2.2.2.2.2.2.2.2.2.2.2.2.2.2.2.2.2.2.2.2.2.2.2.2.2.2.2.2.2.2.2.2.2.2.2.2.2.2.2.2.2.2.2.2.2.2.2.2.2.2.2.2.2.2.2.2.2.2.2.2.2.2.2.2.2.2.2.2.2.2.2.2.2.2.2.2.2.2.2.2.2.2.2.2.2.2.2.2.2.2.2.2.2.2.2.2.2.2.2.2.2.2.2.2.2
    have hp := hq.2
    rw [← hF] at hp
    refine ⟨hI2, ⟨fun i hi => ?_, fun i hi => ?_, ?_⟩, fun i hi => hun i (by simp only [List.mem_cons, List.not_mem_nil, or_false, not_or]; omega)⟩
    · exact iW_fr (hC.1 i hi) (hun _ (by simp only [List.mem_cons, List.not_mem_nil, or_false, not_or]; omega)) (hun _ (by simp only [List.mem_cons, List.not_mem_nil, or_false, not_or]; omega))
    · by_cases hd2 : i = i2
      · rw [hd2]; refine ⟨_, _, _, _, _, ((hun _ (by simp only [List.mem_cons, List.not_mem_nil, or_false, not_or]; omega)).trans hT9), hU9, hU10, ?_⟩; first | exact ⟨_, hp.2⟩
      · by_cases hd4 : i = i4
        · rw [hd4]; refine ⟨_, _, _, _, _, hU11, hU12, hU13, ?_⟩; first | exact hp.1
        · exact iD_fr (hC.2.1 i hi) (hun _ (by simp only [List.mem_cons, List.not_mem_nil, or_false, not_or]; omega)) (hun _ (by simp only [List.mem_cons, List.not_mem_nil, or_false, not_or]; omega)) (hun _ (by simp only [List.mem_cons, List.not_mem_nil, or_false, not_or]; omega))
    · exact iO_fr hC.2.2 (hun _ (by simp only [List.mem_cons, List.not_mem_nil, or_false, not_or]; omega)) (hun _ (by simp only [List.mem_cons, List.not_mem_nil, or_false, not_or]; omega)) (hun _ (by simp only [List.mem_cons, List.not_mem_nil, or_false, not_or]; omega))
  · rintro E u hZ9
    obtain ⟨c, hZ9⟩ := hZ9
    obtain ⟨hE, hZ9⟩ := hZ9
    obtain ⟨hc, hZ9⟩ := hZ9
    obtain ⟨hI2, hZ9⟩ := hZ9
    obtain ⟨hun, hZ9⟩ := hZ9
    obtain ⟨u0_0, hZ9⟩ := hZ9
    obtain ⟨u0_1, hZ9⟩ := hZ9
    obtain ⟨u1_0, hZ9⟩ := hZ9
    obtain ⟨u1_1, hZ9⟩ := hZ9
    obtain ⟨u2_0, hZ9⟩ := hZ9
    obtain ⟨u3_0, hZ9⟩ := hZ9
    obtain ⟨u3_1, hZ9⟩ := hZ9
    obtain ⟨u4_0, hZ9⟩ := hZ9
    obtain ⟨u5_0, hZ9⟩ := hZ9
    obtain ⟨u5_1, hZ9⟩ := hZ9
    obtain ⟨u6_0, hZ9⟩ := hZ9
    obtain ⟨u7_0, hZ9⟩ := hZ9
    obtain ⟨u7_1, hZ9⟩ := hZ9
    obtain ⟨u8_0, hZ9⟩ := hZ9
    obtain ⟨u10_0, hZ9⟩ := hZ9
    obtain ⟨u10_1, hZ9⟩ := hZ9
    obtain ⟨u11_0, hZ9⟩ := hZ9
    obtain ⟨u12_0, hZ9⟩ := hZ9
    obtain ⟨u12_1, hZ9⟩ := hZ9
    obtain ⟨u13_0, hZ9⟩ := hZ9
    obtain ⟨u13_1, hZ9⟩ := hZ9
    obtain ⟨u14_0, hZ9⟩ := hZ9
    obtain ⟨hU0, hZ9⟩ := hZ9
    obtain ⟨hU1, hZ9⟩ := hZ9
    obtain ⟨hU2, hZ9⟩ := hZ9
    obtain ⟨hU3, hZ9⟩ := hZ9
    obtain ⟨hU4, hZ9⟩ := hZ9
    obtain ⟨hU5, hZ9⟩ := hZ9
    obtain ⟨hU6, hZ9⟩ := hZ9
    obtain ⟨hU7, hZ9⟩ := hZ9
    obtain ⟨hU8, hZ9⟩ := hZ9
    obtain ⟨hU9, hZ9⟩ := hZ9
    obtain ⟨hU10, hZ9⟩ := hZ9
    obtain ⟨hU11, hZ9⟩ := hZ9
    obtain ⟨hU12, hZ9⟩ := hZ9
    obtain ⟨hU13, hF⟩ := hZ9
    have hp := hq.2
    rw [← hF] at hp
    have hk := K_NH_divide_ab (x2 := x2) (x3 := x3) (x4 := x4) (x5 := x5) (x6 := x6) (t0_0 := t0_0) (t0_1 := t0_1) (t1_0 := t1_0) (t1_1 := t1_1) (t2_0 := t2_0) (t3_0 := t3_0) (t3_1 := t3_1) (t4_0 := t4_0) (t5_0 := t5_0) (t5_1 := t5_1) (t6_0 := t6_0) (t7_0 := t7_0) (t7_1 := t7_1) (t8_0 := t8_0) (t9_0 := t9_0) (t9_1 := t9_1) (t10_0 := t10_0) (t10_1 := t10_1) (t11_0 := t11_0) (t12_0 := t12_0) (t12_1 := t12_1) (t13_0 := t13_0) (t13_1 := t13_1) (t14_0 := t14_0)
    rw [← hF] at hk
    replace hk : kC12 c := hk
    refine ⟨⟨c, hE, hk.resolve_left hc⟩, hI2, ⟨fun i hi => ?_, fun i hi => ?_, ?_⟩, fun i hi => hun i (by simp only [List.mem_cons, List.not_mem_nil, or_false, not_or]; omega)⟩
    · exact iW_fr (hC.1 i hi) (hun _ (by simp only [List.mem_cons, List.not_mem_nil, or_false, not_or]; omega)) (hun _ (by simp only [List.mem_cons, List.not_mem_nil, or_false, not_or]; omega))
    · by_cases hd2 : i = i2
      · rw [hd2]; refine ⟨_, _, _, _, _, ((hun _ (by simp only [List.mem_cons, List.not_mem_nil, or_false, not_or]; omega)).trans hT9), hU9, hU10, ?_⟩; first | exact ⟨_, hp.2⟩
      · by_cases hd4 : i = i4
        · rw [hd4]; refine ⟨_, _, _, _, _, hU11, hU12, hU13, ?_⟩; first | exact hp.1
        · exact iD_fr (hC.2.1 i hi) (hun _ (by simp only [List.mem_cons, List.not_mem_nil, or_false, not_or]; omega)) (hun _ (by simp only [List.mem_cons, List.not_mem_nil, or_false, not_or]; omega)) (hun _ (by simp only [List.mem_cons, List.not_mem_nil, or_false, not_or]; omega))
    · exact iO_fr hC.2.2 (hun _ (by simp only [List.mem_cons, List.not_mem_nil, or_false, not_or]; omega)) (hun _ (by simp only [List.mem_cons, List.not_mem_nil, or_false, not_or]; omega)) (hun _ (by simp only [List.mem_cons, List.not_mem_nil, or_false, not_or]; omega))
set_option maxRecDepth 100000 in
theorem CV_divide_bt (l : Launch) (D : va_G) (g : Nat → ClassId) (q : Nat → Nat) (ws : va_W) (x2 : Int32) (x3 : Int32) (x4 : Int32) (x5 : Int32) (x6 : Int32) (i2 : Nat) (hi2 : i2 < 10) (i3 : Nat) (hi3 : i3 < 10) (e2 : x2.toNatClampNeg < 10 → i2 = x2.toNatClampNeg) (e3 : x3.toNatClampNeg < 10 → i3 = x3.toNatClampNeg) (e4 : x4.toNatClampNeg < 10 → i3 = x4.toNatClampNeg) (nei2i3 : i2 ≠ i3) (hlt : l.stackTraces = false) (hI : q_I (nsh g q) q ws) (hC : iC g q ws) : ∀ sz, q_Mx l y_NH_divide prog_1_method_13_code 6 none 9 4 24 D g [.ref (q 0), .int x2, .int x3, .int x4, .int x5, .int x6] ws sz (va_Qv (fun u => iP g q ws u) (q_B D g (va_A ws sz)) (va_A ws sz)) (fun E u => (∃ c : Int32, E = qE c ∧ (c = 1 ∨ c = 2)) ∧ iP g q ws u) := by
  intro sz
  obtain ⟨t0_0, t0_1, hT0, bT0⟩ := n_o30 hI
  obtain ⟨t1_0, t1_1, hT1, bT1⟩ := q_bigO hI (n_b10 g q)
  obtain ⟨t2_0, hT2, bT2⟩ := n_ai hI (n_s11 g q)
  obtain ⟨t3_0, t3_1, hT3, bT3⟩ := q_bigO hI (n_b12 g q)
  obtain ⟨t4_0, hT4, bT4⟩ := n_ai hI (n_s13 g q)
  obtain ⟨t5_0, t5_1, hT5, bT5⟩ := q_bigO hI (n_b22 g q)
  obtain ⟨t6_0, hT6, bT6⟩ := n_ai hI (n_s23 g q)
  obtain ⟨t7_0, t7_1, hT7, bT7⟩ := q_bigO hI (n_b20 g q)
  obtain ⟨t8_0, hT8, bT8⟩ := n_ai hI (n_s21 g q)
  obtain ⟨t9_0, hZ9⟩ := hC.2.1 i2 hi2
  obtain ⟨t9_1, hZ9⟩ := hZ9
  obtain ⟨t10_0, hZ9⟩ := hZ9
  obtain ⟨t10_1, hZ9⟩ := hZ9
  obtain ⟨t11_0, hZ9⟩ := hZ9
  obtain ⟨hT9, hZ9⟩ := hZ9
  obtain ⟨hT10, hZ9⟩ := hZ9
  obtain ⟨hT11, hZ9⟩ := hZ9
  obtain ⟨vd2, hbd2⟩ := hZ9
  obtain ⟨t12_0, hZ9⟩ := hC.2.1 i3 hi3
  obtain ⟨t12_1, hZ9⟩ := hZ9
  obtain ⟨t13_0, hZ9⟩ := hZ9
  obtain ⟨t13_1, hZ9⟩ := hZ9
  obtain ⟨t14_0, hZ9⟩ := hZ9
  obtain ⟨hT12, hZ9⟩ := hZ9
  obtain ⟨hT13, hZ9⟩ := hZ9
  obtain ⟨hT14, hZ9⟩ := hZ9
  obtain ⟨vd3, hbd3⟩ := hZ9
  have hq := T_divide_bt (x2 := x2) (x3 := x3) (x4 := x4) (x5 := x5) (x6 := x6) (t0_0 := t0_0) (t0_1 := t0_1) (t1_0 := t1_0) (t1_1 := t1_1) (t2_0 := t2_0) (t3_0 := t3_0) (t3_1 := t3_1) (t4_0 := t4_0) (t5_0 := t5_0) (t5_1 := t5_1) (t6_0 := t6_0) (t7_0 := t7_0) (t7_1 := t7_1) (t8_0 := t8_0) (t9_0 := t9_0) (t9_1 := t9_1) (t10_0 := t10_0) (t10_1 := t10_1) (t11_0 := t11_0) (t12_0 := t12_0) (t12_1 := t12_1) (t13_0 := t13_0) (t13_1 := t13_1) (t14_0 := t14_0) hbd2 hbd3
  refine q_MxV (X_NH_divide_bt l D g q ws x2 x3 x4 x5 x6 (68 + 5 * i2) (n_d g q hi2) (by omega) (fun h => by have z := e2 h; omega) (68 + 5 * i3) (n_d g q hi3) (by omega) (fun h => by have z := e3 h; omega) (fun h => by have z := e4 h; omega) (by omega) (by omega) (by omega) (by omega) (by omega) hlt hI t0_0 t0_1 hT0 t1_0 t1_1 hT1 t2_0 hT2 t3_0 t3_1 hT3 t4_0 hT4 t5_0 t5_1 hT5 t6_0 hT6 t7_0 t7_1 hT7 t8_0 hT8 t9_0 t9_1 hT9 t10_0 t10_1 hT10 t11_0 hT11 t12_0 t12_1 hT12 t13_0 t13_1 hT13 t14_0 hT14 ⟨trivial, hq.1⟩ sz) ?_ ?_
  · rintro u hZ9
    obtain ⟨hI2, hZ9⟩ := hZ9
    obtain ⟨hun, hZ9⟩ := hZ9
    obtain ⟨u0_0, hZ9⟩ := hZ9
    obtain ⟨u0_1, hZ9⟩ := hZ9
    obtain ⟨u1_0, hZ9⟩ := hZ9
    obtain ⟨u1_1, hZ9⟩ := hZ9
    obtain ⟨u2_0, hZ9⟩ := hZ9
    obtain ⟨u3_0, hZ9⟩ := hZ9
    obtain ⟨u3_1, hZ9⟩ := hZ9
    obtain ⟨u4_0, hZ9⟩ := hZ9
    obtain ⟨u5_0, hZ9⟩ := hZ9
    obtain ⟨u5_1, hZ9⟩ := hZ9
    obtain ⟨u6_0, hZ9⟩ := hZ9
    obtain ⟨u7_0, hZ9⟩ := hZ9
    obtain ⟨u7_1, hZ9⟩ := hZ9
    obtain ⟨u8_0, hZ9⟩ := hZ9
    obtain ⟨u12_0, hZ9⟩ := hZ9
    obtain ⟨u12_1, hZ9⟩ := hZ9
    obtain ⟨u13_0, hZ9⟩ := hZ9
    obtain ⟨u13_1, hZ9⟩ := hZ9
    obtain ⟨u14_0, hZ9⟩ := hZ9
    obtain ⟨hU0, hZ9⟩ := hZ9
    obtain ⟨hU1, hZ9⟩ := hZ9
    obtain ⟨hU2, hZ9⟩ := hZ9
    obtain ⟨hU3, hZ9⟩ := hZ9
    obtain ⟨hU4, hZ9⟩ := hZ9
    obtain ⟨hU5, hZ9⟩ := hZ9
    obtain ⟨hU6, hZ9⟩ := hZ9
    obtain ⟨hU7, hZ9⟩ := hZ9
    obtain ⟨hU8, hZ9⟩ := hZ9
    obtain ⟨hU9, hZ9⟩ := hZ9
    obtain ⟨hU10, hZ9⟩ := hZ9
    obtain ⟨hU11, hR⟩ := hZ9
    have hF := hR.2.2.2.2.2.2.2.2.2.2.2.2.2.2.2.2.2.2.2.2.2.2.2.2.2.2.2.2.2.2.2.2.2.2.2.2.2.2.2.2.2.2.2.2.2.2.2.2.2.2.2.2.2.2.2.2.2.2.2.2.2.2.2.2.2.2.2.2.2.2.2.2.2.2.2.2.2.2.2.2.2.2.2.2.2.2.2.2.2.2.2.2.2.2.2
    have hp := hq.2
    rw [← hF] at hp
    refine ⟨hI2, ⟨fun i hi => ?_, fun i hi => ?_, ?_⟩, fun i hi => hun i (by simp only [List.mem_cons, List.not_mem_nil, or_false, not_or]; omega)⟩
    · exact iW_fr (hC.1 i hi) (hun _ (by simp only [List.mem_cons, List.not_mem_nil, or_false, not_or]; omega)) (hun _ (by simp only [List.mem_cons, List.not_mem_nil, or_false, not_or]; omega))
    · by_cases hd3 : i = i3
      · rw [hd3]; refine ⟨_, _, _, _, _, hU9, hU10, hU11, ?_⟩; first | exact hp
      · exact iD_fr (hC.2.1 i hi) (hun _ (by simp only [List.mem_cons, List.not_mem_nil, or_false, not_or]; omega)) (hun _ (by simp only [List.mem_cons, List.not_mem_nil, or_false, not_or]; omega)) (hun _ (by simp only [List.mem_cons, List.not_mem_nil, or_false, not_or]; omega))
    · exact iO_fr hC.2.2 (hun _ (by simp only [List.mem_cons, List.not_mem_nil, or_false, not_or]; omega)) (hun _ (by simp only [List.mem_cons, List.not_mem_nil, or_false, not_or]; omega)) (hun _ (by simp only [List.mem_cons, List.not_mem_nil, or_false, not_or]; omega))
  · rintro E u hZ9
    obtain ⟨c, hZ9⟩ := hZ9
    obtain ⟨hE, hZ9⟩ := hZ9
    obtain ⟨hc, hZ9⟩ := hZ9
    obtain ⟨hI2, hZ9⟩ := hZ9
    obtain ⟨hun, hZ9⟩ := hZ9
    obtain ⟨u0_0, hZ9⟩ := hZ9
    obtain ⟨u0_1, hZ9⟩ := hZ9
    obtain ⟨u1_0, hZ9⟩ := hZ9
    obtain ⟨u1_1, hZ9⟩ := hZ9
    obtain ⟨u2_0, hZ9⟩ := hZ9
    obtain ⟨u3_0, hZ9⟩ := hZ9
    obtain ⟨u3_1, hZ9⟩ := hZ9
    obtain ⟨u4_0, hZ9⟩ := hZ9
    obtain ⟨u5_0, hZ9⟩ := hZ9
    obtain ⟨u5_1, hZ9⟩ := hZ9
    obtain ⟨u6_0, hZ9⟩ := hZ9
    obtain ⟨u7_0, hZ9⟩ := hZ9
    obtain ⟨u7_1, hZ9⟩ := hZ9
    obtain ⟨u8_0, hZ9⟩ := hZ9
    obtain ⟨u12_0, hZ9⟩ := hZ9
    obtain ⟨u12_1, hZ9⟩ := hZ9
    obtain ⟨u13_0, hZ9⟩ := hZ9
    obtain ⟨u13_1, hZ9⟩ := hZ9
    obtain ⟨u14_0, hZ9⟩ := hZ9
    obtain ⟨hU0, hZ9⟩ := hZ9
    obtain ⟨hU1, hZ9⟩ := hZ9
    obtain ⟨hU2, hZ9⟩ := hZ9
    obtain ⟨hU3, hZ9⟩ := hZ9
    obtain ⟨hU4, hZ9⟩ := hZ9
    obtain ⟨hU5, hZ9⟩ := hZ9
    obtain ⟨hU6, hZ9⟩ := hZ9
    obtain ⟨hU7, hZ9⟩ := hZ9
    obtain ⟨hU8, hZ9⟩ := hZ9
    obtain ⟨hU9, hZ9⟩ := hZ9
    obtain ⟨hU10, hZ9⟩ := hZ9
    obtain ⟨hU11, hF⟩ := hZ9
    have hp := hq.2
    rw [← hF] at hp
    have hk := K_NH_divide_bt (x2 := x2) (x3 := x3) (x4 := x4) (x5 := x5) (x6 := x6) (t0_0 := t0_0) (t0_1 := t0_1) (t1_0 := t1_0) (t1_1 := t1_1) (t2_0 := t2_0) (t3_0 := t3_0) (t3_1 := t3_1) (t4_0 := t4_0) (t5_0 := t5_0) (t5_1 := t5_1) (t6_0 := t6_0) (t7_0 := t7_0) (t7_1 := t7_1) (t8_0 := t8_0) (t9_0 := t9_0) (t9_1 := t9_1) (t10_0 := t10_0) (t10_1 := t10_1) (t11_0 := t11_0) (t12_0 := t12_0) (t12_1 := t12_1) (t13_0 := t13_0) (t13_1 := t13_1) (t14_0 := t14_0)
    rw [← hF] at hk
    replace hk : kC12 c := hk
    refine ⟨⟨c, hE, hk.resolve_left hc⟩, hI2, ⟨fun i hi => ?_, fun i hi => ?_, ?_⟩, fun i hi => hun i (by simp only [List.mem_cons, List.not_mem_nil, or_false, not_or]; omega)⟩
    · exact iW_fr (hC.1 i hi) (hun _ (by simp only [List.mem_cons, List.not_mem_nil, or_false, not_or]; omega)) (hun _ (by simp only [List.mem_cons, List.not_mem_nil, or_false, not_or]; omega))
    · by_cases hd3 : i = i3
      · rw [hd3]; refine ⟨_, _, _, _, _, hU9, hU10, hU11, ?_⟩; first | exact hp
      · exact iD_fr (hC.2.1 i hi) (hun _ (by simp only [List.mem_cons, List.not_mem_nil, or_false, not_or]; omega)) (hun _ (by simp only [List.mem_cons, List.not_mem_nil, or_false, not_or]; omega)) (hun _ (by simp only [List.mem_cons, List.not_mem_nil, or_false, not_or]; omega))
    · exact iO_fr hC.2.2 (hun _ (by simp only [List.mem_cons, List.not_mem_nil, or_false, not_or]; omega)) (hun _ (by simp only [List.mem_cons, List.not_mem_nil, or_false, not_or]; omega)) (hun _ (by simp only [List.mem_cons, List.not_mem_nil, or_false, not_or]; omega))
set_option maxRecDepth 100000 in
theorem CV_divide_abt (l : Launch) (D : va_G) (g : Nat → ClassId) (q : Nat → Nat) (ws : va_W) (x2 : Int32) (x3 : Int32) (x4 : Int32) (x5 : Int32) (x6 : Int32) (i2 : Nat) (hi2 : i2 < 10) (e2 : x2.toNatClampNeg < 10 → i2 = x2.toNatClampNeg) (e3 : x3.toNatClampNeg < 10 → i2 = x3.toNatClampNeg) (e4 : x4.toNatClampNeg < 10 → i2 = x4.toNatClampNeg) (hlt : l.stackTraces = false) (hI : q_I (nsh g q) q ws) (hC : iC g q ws) : ∀ sz, q_Mx l y_NH_divide prog_1_method_13_code 6 none 9 4 24 D g [.ref (q 0), .int x2, .int x3, .int x4, .int x5, .int x6] ws sz (va_Qv (fun u => iP g q ws u) (q_B D g (va_A ws sz)) (va_A ws sz)) (fun E u => (∃ c : Int32, E = qE c ∧ (c = 1 ∨ c = 2)) ∧ iP g q ws u) := by
  intro sz
  obtain ⟨t0_0, t0_1, hT0, bT0⟩ := n_o30 hI
  obtain ⟨t1_0, t1_1, hT1, bT1⟩ := q_bigO hI (n_b10 g q)
  obtain ⟨t2_0, hT2, bT2⟩ := n_ai hI (n_s11 g q)
  obtain ⟨t3_0, t3_1, hT3, bT3⟩ := q_bigO hI (n_b12 g q)
  obtain ⟨t4_0, hT4, bT4⟩ := n_ai hI (n_s13 g q)
  obtain ⟨t5_0, t5_1, hT5, bT5⟩ := q_bigO hI (n_b22 g q)
  obtain ⟨t6_0, hT6, bT6⟩ := n_ai hI (n_s23 g q)
  obtain ⟨t7_0, t7_1, hT7, bT7⟩ := q_bigO hI (n_b20 g q)
  obtain ⟨t8_0, hT8, bT8⟩ := n_ai hI (n_s21 g q)
  obtain ⟨t9_0, hZ9⟩ := hC.2.1 i2 hi2
  obtain ⟨t9_1, hZ9⟩ := hZ9
  obtain ⟨t10_0, hZ9⟩ := hZ9
  obtain ⟨t10_1, hZ9⟩ := hZ9
  obtain ⟨t11_0, hZ9⟩ := hZ9
  obtain ⟨hT9, hZ9⟩ := hZ9
  obtain ⟨hT10, hZ9⟩ := hZ9
  obtain ⟨hT11, hZ9⟩ := hZ9
  obtain ⟨vd2, hbd2⟩ := hZ9
  have hq := T_divide_abt (x2 := x2) (x3 := x3) (x4 := x4) (x5 := x5) (x6 := x6) (t0_0 := t0_0) (t0_1 := t0_1) (t1_0 := t1_0) (t1_1 := t1_1) (t2_0 := t2_0) (t3_0 := t3_0) (t3_1 := t3_1) (t4_0 := t4_0) (t5_0 := t5_0) (t5_1 := t5_1) (t6_0 := t6_0) (t7_0 := t7_0) (t7_1 := t7_1) (t8_0 := t8_0) (t9_0 := t9_0) (t9_1 := t9_1) (t10_0 := t10_0) (t10_1 := t10_1) (t11_0 := t11_0) hbd2
  refine q_MxV (X_NH_divide_abt l D g q ws x2 x3 x4 x5 x6 (68 + 5 * i2) (n_d g q hi2) (by omega) (fun h => by have z := e2 h; omega) (fun h => by have z := e3 h; omega) (fun h => by have z := e4 h; omega) hlt hI t0_0 t0_1 hT0 t1_0 t1_1 hT1 t2_0 hT2 t3_0 t3_1 hT3 t4_0 hT4 t5_0 t5_1 hT5 t6_0 hT6 t7_0 t7_1 hT7 t8_0 hT8 t9_0 t9_1 hT9 t10_0 t10_1 hT10 t11_0 hT11 ⟨trivial, hq.1⟩ sz) ?_ ?_
  · rintro u hZ9
    obtain ⟨hI2, hZ9⟩ := hZ9
    obtain ⟨hun, hZ9⟩ := hZ9
    obtain ⟨u0_0, hZ9⟩ := hZ9
    obtain ⟨u0_1, hZ9⟩ := hZ9
    obtain ⟨u1_0, hZ9⟩ := hZ9
    obtain ⟨u1_1, hZ9⟩ := hZ9
    obtain ⟨u2_0, hZ9⟩ := hZ9
    obtain ⟨u3_0, hZ9⟩ := hZ9
    obtain ⟨u3_1, hZ9⟩ := hZ9
    obtain ⟨u4_0, hZ9⟩ := hZ9
    obtain ⟨u5_0, hZ9⟩ := hZ9
    obtain ⟨u5_1, hZ9⟩ := hZ9
    obtain ⟨u6_0, hZ9⟩ := hZ9
    obtain ⟨u7_0, hZ9⟩ := hZ9
    obtain ⟨u7_1, hZ9⟩ := hZ9
    obtain ⟨u8_0, hZ9⟩ := hZ9
    obtain ⟨u9_0, hZ9⟩ := hZ9
    obtain ⟨u9_1, hZ9⟩ := hZ9
    obtain ⟨u10_0, hZ9⟩ := hZ9
    obtain ⟨u10_1, hZ9⟩ := hZ9
    obtain ⟨u11_0, hZ9⟩ := hZ9
    obtain ⟨hU0, hZ9⟩ := hZ9
    obtain ⟨hU1, hZ9⟩ := hZ9
    obtain ⟨hU2, hZ9⟩ := hZ9
    obtain ⟨hU3, hZ9⟩ := hZ9
    obtain ⟨hU4, hZ9⟩ := hZ9
    obtain ⟨hU5, hZ9⟩ := hZ9
    obtain ⟨hU6, hZ9⟩ := hZ9
    obtain ⟨hU7, hZ9⟩ := hZ9
    obtain ⟨hU8, hZ9⟩ := hZ9
    obtain ⟨hU9, hZ9⟩ := hZ9
    obtain ⟨hU10, hZ9⟩ := hZ9
    obtain ⟨hU11, hR⟩ := hZ9
    have hF := hR.2.2.2.2.2.2.2.2.2.2.2.2.2.2.2.2.2.2.2.2.2.2.2.2.2.2.2.2.2.2.2.2.2.2.2.2.2.2.2.2.2.2.2.2.2.2.2.2.2.2.2.2.2.2.2.2.2.2.2.2.2.2.2.2.2.2.2.2.2.2.2.2.2.2.2.2.2.2.2.2.2.2.2.2.2.2.2.2.2.2.2.2.2.2.2
    have hp := hq.2
    rw [← hF] at hp
    refine ⟨hI2, ⟨fun i hi => ?_, fun i hi => ?_, ?_⟩, fun i hi => hun i (by simp only [List.mem_cons, List.not_mem_nil, or_false, not_or]; omega)⟩
    · exact iW_fr (hC.1 i hi) (hun _ (by simp only [List.mem_cons, List.not_mem_nil, or_false, not_or]; omega)) (hun _ (by simp only [List.mem_cons, List.not_mem_nil, or_false, not_or]; omega))
    · by_cases hd2 : i = i2
      · rw [hd2]; refine ⟨_, _, _, _, _, hU9, hU10, hU11, ?_⟩; first | exact hp
      · exact iD_fr (hC.2.1 i hi) (hun _ (by simp only [List.mem_cons, List.not_mem_nil, or_false, not_or]; omega)) (hun _ (by simp only [List.mem_cons, List.not_mem_nil, or_false, not_or]; omega)) (hun _ (by simp only [List.mem_cons, List.not_mem_nil, or_false, not_or]; omega))
    · exact iO_fr hC.2.2 (hun _ (by simp only [List.mem_cons, List.not_mem_nil, or_false, not_or]; omega)) (hun _ (by simp only [List.mem_cons, List.not_mem_nil, or_false, not_or]; omega)) (hun _ (by simp only [List.mem_cons, List.not_mem_nil, or_false, not_or]; omega))
  · rintro E u hZ9
    obtain ⟨c, hZ9⟩ := hZ9
    obtain ⟨hE, hZ9⟩ := hZ9
    obtain ⟨hc, hZ9⟩ := hZ9
    obtain ⟨hI2, hZ9⟩ := hZ9
    obtain ⟨hun, hZ9⟩ := hZ9
    obtain ⟨u0_0, hZ9⟩ := hZ9
    obtain ⟨u0_1, hZ9⟩ := hZ9
    obtain ⟨u1_0, hZ9⟩ := hZ9
    obtain ⟨u1_1, hZ9⟩ := hZ9
    obtain ⟨u2_0, hZ9⟩ := hZ9
    obtain ⟨u3_0, hZ9⟩ := hZ9
    obtain ⟨u3_1, hZ9⟩ := hZ9
    obtain ⟨u4_0, hZ9⟩ := hZ9
    obtain ⟨u5_0, hZ9⟩ := hZ9
    obtain ⟨u5_1, hZ9⟩ := hZ9
    obtain ⟨u6_0, hZ9⟩ := hZ9
    obtain ⟨u7_0, hZ9⟩ := hZ9
    obtain ⟨u7_1, hZ9⟩ := hZ9
    obtain ⟨u8_0, hZ9⟩ := hZ9
    obtain ⟨u9_0, hZ9⟩ := hZ9
    obtain ⟨u9_1, hZ9⟩ := hZ9
    obtain ⟨u10_0, hZ9⟩ := hZ9
    obtain ⟨u10_1, hZ9⟩ := hZ9
    obtain ⟨u11_0, hZ9⟩ := hZ9
    obtain ⟨hU0, hZ9⟩ := hZ9
    obtain ⟨hU1, hZ9⟩ := hZ9
    obtain ⟨hU2, hZ9⟩ := hZ9
    obtain ⟨hU3, hZ9⟩ := hZ9
    obtain ⟨hU4, hZ9⟩ := hZ9
    obtain ⟨hU5, hZ9⟩ := hZ9
    obtain ⟨hU6, hZ9⟩ := hZ9
    obtain ⟨hU7, hZ9⟩ := hZ9
    obtain ⟨hU8, hZ9⟩ := hZ9
    obtain ⟨hU9, hZ9⟩ := hZ9
    obtain ⟨hU10, hZ9⟩ := hZ9
    obtain ⟨hU11, hF⟩ := hZ9
    have hp := hq.2
    rw [← hF] at hp
    have hk := K_NH_divide_abt (x2 := x2) (x3 := x3) (x4 := x4) (x5 := x5) (x6 := x6) (t0_0 := t0_0) (t0_1 := t0_1) (t1_0 := t1_0) (t1_1 := t1_1) (t2_0 := t2_0) (t3_0 := t3_0) (t3_1 := t3_1) (t4_0 := t4_0) (t5_0 := t5_0) (t5_1 := t5_1) (t6_0 := t6_0) (t7_0 := t7_0) (t7_1 := t7_1) (t8_0 := t8_0) (t9_0 := t9_0) (t9_1 := t9_1) (t10_0 := t10_0) (t10_1 := t10_1) (t11_0 := t11_0)
    rw [← hF] at hk
    replace hk : kC12 c := hk
    refine ⟨⟨c, hE, hk.resolve_left hc⟩, hI2, ⟨fun i hi => ?_, fun i hi => ?_, ?_⟩, fun i hi => hun i (by simp only [List.mem_cons, List.not_mem_nil, or_false, not_or]; omega)⟩
    · exact iW_fr (hC.1 i hi) (hun _ (by simp only [List.mem_cons, List.not_mem_nil, or_false, not_or]; omega)) (hun _ (by simp only [List.mem_cons, List.not_mem_nil, or_false, not_or]; omega))
    · by_cases hd2 : i = i2
      · rw [hd2]; refine ⟨_, _, _, _, _, hU9, hU10, hU11, ?_⟩; first | exact hp
      · exact iD_fr (hC.2.1 i hi) (hun _ (by simp only [List.mem_cons, List.not_mem_nil, or_false, not_or]; omega)) (hun _ (by simp only [List.mem_cons, List.not_mem_nil, or_false, not_or]; omega)) (hun _ (by simp only [List.mem_cons, List.not_mem_nil, or_false, not_or]; omega))
    · exact iO_fr hC.2.2 (hun _ (by simp only [List.mem_cons, List.not_mem_nil, or_false, not_or]; omega)) (hun _ (by simp only [List.mem_cons, List.not_mem_nil, or_false, not_or]; omega)) (hun _ (by simp only [List.mem_cons, List.not_mem_nil, or_false, not_or]; omega))
set_option maxRecDepth 100000 in
theorem CV_quotient (l : Launch) (D : va_G) (g : Nat → ClassId) (q : Nat → Nat) (ws : va_W) (x2 : Int32) (x3 : Int32) (x4 : Int32) (x5 : Int32) (x6 : Int32) (i2 : Nat) (hi2 : i2 < 10) (i3 : Nat) (hi3 : i3 < 10) (i4 : Nat) (hi4 : i4 < 10) (e2 : x2.toNatClampNeg < 10 → i2 = x2.toNatClampNeg) (e3 : x3.toNatClampNeg < 10 → i3 = x3.toNatClampNeg) (e4 : x4.toNatClampNeg < 10 → i4 = x4.toNatClampNeg) (nei2i3 : i2 ≠ i3) (nei3i4 : i3 ≠ i4) (hlt : l.stackTraces = false) (hI : q_I (nsh g q) q ws) (hC : iC g q ws) : ∀ sz, q_Mx l y_NH_quotient prog_1_method_14_code 6 none 9 5 30 D g [.ref (q 0), .int x2, .int x3, .int x4, .int x5, .int x6] ws sz (va_Qv (fun u => iP g q ws u) (q_B D g (va_A ws sz)) (va_A ws sz)) (fun E u => (∃ c : Int32, E = qE c ∧ (c = 1 ∨ c = 2)) ∧ iP g q ws u) := by
  intro sz
  obtain ⟨t0_0, t0_1, hT0, bT0⟩ := n_o30 hI
  obtain ⟨t1_0, t1_1, hT1, bT1⟩ := q_bigO hI (n_b10 g q)
  obtain ⟨t2_0, hT2, bT2⟩ := n_ai hI (n_s11 g q)
  obtain ⟨t3_0, t3_1, hT3, bT3⟩ := q_bigO hI (n_b12 g q)
  obtain ⟨t4_0, hT4, bT4⟩ := n_ai hI (n_s13 g q)
  obtain ⟨t5_0, t5_1, hT5, bT5⟩ := q_bigO hI (n_b22 g q)
  obtain ⟨t6_0, hT6, bT6⟩ := n_ai hI (n_s23 g q)
  obtain ⟨t7_0, t7_1, hT7, bT7⟩ := q_bigO hI (n_b20 g q)
  obtain ⟨t8_0, hT8, bT8⟩ := n_ai hI (n_s21 g q)
  obtain ⟨t9_0, hZ9⟩ := hC.2.1 i2 hi2
  obtain ⟨t9_1, hZ9⟩ := hZ9
  obtain ⟨t10_0, hZ9⟩ := hZ9
  obtain ⟨t10_1, hZ9⟩ := hZ9
  obtain ⟨t11_0, hZ9⟩ := hZ9
  obtain ⟨hT9, hZ9⟩ := hZ9
  obtain ⟨hT10, hZ9⟩ := hZ9
  obtain ⟨hT11, hZ9⟩ := hZ9
  obtain ⟨vd2, hbd2⟩ := hZ9
  obtain ⟨t12_0, hZ9⟩ := hC.2.1 i3 hi3
  obtain ⟨t12_1, hZ9⟩ := hZ9
  obtain ⟨t13_0, hZ9⟩ := hZ9
  obtain ⟨t13_1, hZ9⟩ := hZ9
  obtain ⟨t14_0, hZ9⟩ := hZ9
  obtain ⟨hT12, hZ9⟩ := hZ9
  obtain ⟨hT13, hZ9⟩ := hZ9
  obtain ⟨hT14, hZ9⟩ := hZ9
  obtain ⟨vd3, hbd3⟩ := hZ9
  obtain ⟨t15_0, hZ9⟩ := hC.2.1 i4 hi4
  obtain ⟨t15_1, hZ9⟩ := hZ9
  obtain ⟨t16_0, hZ9⟩ := hZ9
  obtain ⟨t16_1, hZ9⟩ := hZ9
  obtain ⟨t17_0, hZ9⟩ := hZ9
  obtain ⟨hT15, hZ9⟩ := hZ9
  obtain ⟨hT16, hZ9⟩ := hZ9
  obtain ⟨hT17, hZ9⟩ := hZ9
  obtain ⟨vd4, hbd4⟩ := hZ9
  have hq := T_quotient (x2 := x2) (x3 := x3) (x4 := x4) (x5 := x5) (x6 := x6) (t0_0 := t0_0) (t0_1 := t0_1) (t1_0 := t1_0) (t1_1 := t1_1) (t2_0 := t2_0) (t3_0 := t3_0) (t3_1 := t3_1) (t4_0 := t4_0) (t5_0 := t5_0) (t5_1 := t5_1) (t6_0 := t6_0) (t7_0 := t7_0) (t7_1 := t7_1) (t8_0 := t8_0) (t9_0 := t9_0) (t9_1 := t9_1) (t10_0 := t10_0) (t10_1 := t10_1) (t11_0 := t11_0) (t12_0 := t12_0) (t12_1 := t12_1) (t13_0 := t13_0) (t13_1 := t13_1) (t14_0 := t14_0) (t15_0 := t15_0) (t15_1 := t15_1) (t16_0 := t16_0) (t16_1 := t16_1) (t17_0 := t17_0) hbd2 hbd3 ⟨_, hbd4⟩
  refine q_MxV (X_NH_quotient l D g q ws x2 x3 x4 x5 x6 (68 + 5 * i2) (n_d g q hi2) (by omega) (fun h => by have z := e2 h; omega) (68 + 5 * i3) (n_d g q hi3) (by omega) (fun h => by have z := e3 h; omega) (68 + 5 * i4) (n_d g q hi4) (by omega) (fun h => by have z := e4 h; omega) (by omega) (by omega) (by omega) (by omega) (by omega) (by omega) (by omega) (by omega) (by omega) (by omega) hlt hI t0_0 t0_1 hT0 t1_0 t1_1 hT1 t2_0 hT2 t3_0 t3_1 hT3 t4_0 hT4 t5_0 t5_1 hT5 t6_0 hT6 t7_0 t7_1 hT7 t8_0 hT8 t9_0 t9_1 hT9 t10_0 t10_1 hT10 t11_0 hT11 t12_0 t12_1 hT12 t13_0 t13_1 hT13 t14_0 hT14 t15_0 t15_1 hT15 t16_0 t16_1 hT16 t17_0 hT17 ⟨trivial, hq.1⟩ sz) ?_ ?_
  · rintro u hZ9
    obtain ⟨hI2, hZ9⟩ := hZ9
    obtain ⟨hun, hZ9⟩ := hZ9
    obtain ⟨u0_0, hZ9⟩ := hZ9
    obtain ⟨u0_1, hZ9⟩ := hZ9
    obtain ⟨u1_0, hZ9⟩ := hZ9
    obtain ⟨u1_1, hZ9⟩ := hZ9
    obtain ⟨u2_0, hZ9⟩ := hZ9
    obtain ⟨u3_0, hZ9⟩ := hZ9
    obtain ⟨u3_1, hZ9⟩ := hZ9
    obtain ⟨u4_0, hZ9⟩ := hZ9
    obtain ⟨u5_0, hZ9⟩ := hZ9
    obtain ⟨u5_1, hZ9⟩ := hZ9
    obtain ⟨u6_0, hZ9⟩ := hZ9
    obtain ⟨u7_0, hZ9⟩ := hZ9
    obtain ⟨u7_1, hZ9⟩ := hZ9
    obtain ⟨u8_0, hZ9⟩ := hZ9
    obtain ⟨u13_0, hZ9⟩ := hZ9
    obtain ⟨u13_1, hZ9⟩ := hZ9
    obtain ⟨u14_0, hZ9⟩ := hZ9
    obtain ⟨u15_0, hZ9⟩ := hZ9
    obtain ⟨u15_1, hZ9⟩ := hZ9
    obtain ⟨u16_0, hZ9⟩ := hZ9
    obtain ⟨u16_1, hZ9⟩ := hZ9
    obtain ⟨u17_0, hZ9⟩ := hZ9
    obtain ⟨hU0, hZ9⟩ := hZ9
    obtain ⟨hU1, hZ9⟩ := hZ9
    obtain ⟨hU2, hZ9⟩ := hZ9
    obtain ⟨hU3, hZ9⟩ := hZ9
    obtain ⟨hU4, hZ9⟩ := hZ9
    obtain ⟨hU5, hZ9⟩ := hZ9
    obtain ⟨hU6, hZ9⟩ := hZ9
    obtain ⟨hU7, hZ9⟩ := hZ9
    obtain ⟨hU8, hZ9⟩ := hZ9
    obtain ⟨hU9, hZ9⟩ := hZ9
    obtain ⟨hU10, hZ9⟩ := hZ9
    obtain ⟨hU11, hZ9⟩ := hZ9
    obtain ⟨hU12, hZ9⟩ := hZ9
    obtain ⟨hU13, hR⟩ := hZ9
    have hF := hR.2.2.2.2.2.2.2.2.2.2.2.2.2.2.2.2.2.2.2.2.2.2.2.2.2.2.2.2.2.2.2.2.2.2.2.2.2.2.2.2.2.2.2.2.2.2.2.2.2.2.2.2.2.2.2.2.2.2.2.2.2.2.2.2.2.2.2.2.2.2.2.2.2.2.2.2.2.2.2.2.2.2.2.2.2.2.2.2.2.2.2.2.2.2.2.2.2.2.2.2.2.2.2.2.2.2
    have hp := hq.2
    rw [← hF] at hp
    refine ⟨hI2, ⟨fun i hi => ?_, fun i hi => ?_, ?_⟩, fun i hi => hun i (by simp only [List.mem_cons, List.not_mem_nil, or_false, not_or]; omega)⟩
    · exact iW_fr (hC.1 i hi) (hun _ (by simp only [List.mem_cons, List.not_mem_nil, or_false, not_or]; omega)) (hun _ (by simp only [List.mem_cons, List.not_mem_nil, or_false, not_or]; omega))
    · by_cases hd3 : i = i3
      · rw [hd3]; refine ⟨_, _, _, _, _, ((hun _ (by simp only [List.mem_cons, List.not_mem_nil, or_false, not_or]; omega)).trans hT12), hU9, hU10, ?_⟩; first | exact ⟨_, hp.2⟩
      · by_cases hd4 : i = i4
        · rw [hd4]; refine ⟨_, _, _, _, _, hU11, hU12, hU13, ?_⟩; first | exact hp.1
        · exact iD_fr (hC.2.1 i hi) (hun _ (by simp only [List.mem_cons, List.not_mem_nil, or_false, not_or]; omega)) (hun _ (by simp only [List.mem_cons, List.not_mem_nil, or_false, not_or]; omega)) (hun _ (by simp only [List.mem_cons, List.not_mem_nil, or_false, not_or]; omega))
    · exact iO_fr hC.2.2 (hun _ (by simp only [List.mem_cons, List.not_mem_nil, or_false, not_or]; omega)) (hun _ (by simp only [List.mem_cons, List.not_mem_nil, or_false, not_or]; omega)) (hun _ (by simp only [List.mem_cons, List.not_mem_nil, or_false, not_or]; omega))
  · rintro E u hZ9
    obtain ⟨c, hZ9⟩ := hZ9
    obtain ⟨hE, hZ9⟩ := hZ9
    obtain ⟨hc, hZ9⟩ := hZ9
    obtain ⟨hI2, hZ9⟩ := hZ9
    obtain ⟨hun, hZ9⟩ := hZ9
    obtain ⟨u0_0, hZ9⟩ := hZ9
    obtain ⟨u0_1, hZ9⟩ := hZ9
    obtain ⟨u1_0, hZ9⟩ := hZ9
    obtain ⟨u1_1, hZ9⟩ := hZ9
    obtain ⟨u2_0, hZ9⟩ := hZ9
    obtain ⟨u3_0, hZ9⟩ := hZ9
    obtain ⟨u3_1, hZ9⟩ := hZ9
    obtain ⟨u4_0, hZ9⟩ := hZ9
    obtain ⟨u5_0, hZ9⟩ := hZ9
    obtain ⟨u5_1, hZ9⟩ := hZ9
    obtain ⟨u6_0, hZ9⟩ := hZ9
    obtain ⟨u7_0, hZ9⟩ := hZ9
    obtain ⟨u7_1, hZ9⟩ := hZ9
    obtain ⟨u8_0, hZ9⟩ := hZ9
    obtain ⟨u13_0, hZ9⟩ := hZ9
    obtain ⟨u13_1, hZ9⟩ := hZ9
    obtain ⟨u14_0, hZ9⟩ := hZ9
    obtain ⟨u15_0, hZ9⟩ := hZ9
    obtain ⟨u15_1, hZ9⟩ := hZ9
    obtain ⟨u16_0, hZ9⟩ := hZ9
    obtain ⟨u16_1, hZ9⟩ := hZ9
    obtain ⟨u17_0, hZ9⟩ := hZ9
    obtain ⟨hU0, hZ9⟩ := hZ9
    obtain ⟨hU1, hZ9⟩ := hZ9
    obtain ⟨hU2, hZ9⟩ := hZ9
    obtain ⟨hU3, hZ9⟩ := hZ9
    obtain ⟨hU4, hZ9⟩ := hZ9
    obtain ⟨hU5, hZ9⟩ := hZ9
    obtain ⟨hU6, hZ9⟩ := hZ9
    obtain ⟨hU7, hZ9⟩ := hZ9
    obtain ⟨hU8, hZ9⟩ := hZ9
    obtain ⟨hU9, hZ9⟩ := hZ9
    obtain ⟨hU10, hZ9⟩ := hZ9
    obtain ⟨hU11, hZ9⟩ := hZ9
    obtain ⟨hU12, hZ9⟩ := hZ9
    obtain ⟨hU13, hF⟩ := hZ9
    have hp := hq.2
    rw [← hF] at hp
    have hk := K_NH_quotient (x2 := x2) (x3 := x3) (x4 := x4) (x5 := x5) (x6 := x6) (t0_0 := t0_0) (t0_1 := t0_1) (t1_0 := t1_0) (t1_1 := t1_1) (t2_0 := t2_0) (t3_0 := t3_0) (t3_1 := t3_1) (t4_0 := t4_0) (t5_0 := t5_0) (t5_1 := t5_1) (t6_0 := t6_0) (t7_0 := t7_0) (t7_1 := t7_1) (t8_0 := t8_0) (t9_0 := t9_0) (t9_1 := t9_1) (t10_0 := t10_0) (t10_1 := t10_1) (t11_0 := t11_0) (t12_0 := t12_0) (t12_1 := t12_1) (t13_0 := t13_0) (t13_1 := t13_1) (t14_0 := t14_0) (t15_0 := t15_0) (t15_1 := t15_1) (t16_0 := t16_0) (t16_1 := t16_1) (t17_0 := t17_0)
    rw [← hF] at hk
    replace hk : kC12 c := hk
    refine ⟨⟨c, hE, hk.resolve_left hc⟩, hI2, ⟨fun i hi => ?_, fun i hi => ?_, ?_⟩, fun i hi => hun i (by simp only [List.mem_cons, List.not_mem_nil, or_false, not_or]; omega)⟩
    · exact iW_fr (hC.1 i hi) (hun _ (by simp only [List.mem_cons, List.not_mem_nil, or_false, not_or]; omega)) (hun _ (by simp only [List.mem_cons, List.not_mem_nil, or_false, not_or]; omega))
    · by_cases hd3 : i = i3
      · rw [hd3]; refine ⟨_, _, _, _, _, ((hun _ (by simp only [List.mem_cons, List.not_mem_nil, or_false, not_or]; omega)).trans hT12), hU9, hU10, ?_⟩; first | exact ⟨_, hp.2⟩
      · by_cases hd4 : i = i4
        · rw [hd4]; refine ⟨_, _, _, _, _, hU11, hU12, hU13, ?_⟩; first | exact hp.1
        · exact iD_fr (hC.2.1 i hi) (hun _ (by simp only [List.mem_cons, List.not_mem_nil, or_false, not_or]; omega)) (hun _ (by simp only [List.mem_cons, List.not_mem_nil, or_false, not_or]; omega)) (hun _ (by simp only [List.mem_cons, List.not_mem_nil, or_false, not_or]; omega))
    · exact iO_fr hC.2.2 (hun _ (by simp only [List.mem_cons, List.not_mem_nil, or_false, not_or]; omega)) (hun _ (by simp only [List.mem_cons, List.not_mem_nil, or_false, not_or]; omega)) (hun _ (by simp only [List.mem_cons, List.not_mem_nil, or_false, not_or]; omega))
set_option maxRecDepth 100000 in
theorem CV_quotient_ab (l : Launch) (D : va_G) (g : Nat → ClassId) (q : Nat → Nat) (ws : va_W) (x2 : Int32) (x3 : Int32) (x4 : Int32) (x5 : Int32) (x6 : Int32) (i2 : Nat) (hi2 : i2 < 10) (i4 : Nat) (hi4 : i4 < 10) (e2 : x2.toNatClampNeg < 10 → i2 = x2.toNatClampNeg) (e3 : x3.toNatClampNeg < 10 → i2 = x3.toNatClampNeg) (e4 : x4.toNatClampNeg < 10 → i4 = x4.toNatClampNeg) (nei2i4 : i2 ≠ i4) (hlt : l.stackTraces = false) (hI : q_I (nsh g q) q ws) (hC : iC g q ws) : ∀ sz, q_Mx l y_NH_quotient prog_1_method_14_code 6 none 9 5 30 D g [.ref (q 0), .int x2, .int x3, .int x4, .int x5, .int x6] ws sz (va_Qv (fun u => iP g q ws u) (q_B D g (va_A ws sz)) (va_A ws sz)) (fun E u => (∃ c : Int32, E = qE c ∧ (c = 1 ∨ c = 2)) ∧ iP g q ws u) := by
  intro sz
  obtain ⟨t0_0, t0_1, hT0, bT0⟩ := n_o30 hI
  obtain ⟨t1_0, t1_1, hT1, bT1⟩ := q_bigO hI (n_b10 g q)
  obtain ⟨t2_0, hT2, bT2⟩ := n_ai hI (n_s11 g q)
  obtain ⟨t3_0, t3_1, hT3, bT3⟩ := q_bigO hI (n_b12 g q)
  obtain ⟨t4_0, hT4, bT4⟩ := n_ai hI (n_s13 g q)
  obtain ⟨t5_0, t5_1, hT5, bT5⟩ := q_bigO hI (n_b22 g q)
  obtain ⟨t6_0, hT6, bT6⟩ := n_ai hI (n_s23 g q)
  obtain ⟨t7_0, t7_1, hT7, bT7⟩ := q_bigO hI (n_b20 g q)
  obtain ⟨t8_0, hT8, bT8⟩ := n_ai hI (n_s21 g q)
  obtain ⟨t9_0, hZ9⟩ := hC.2.1 i2 hi2
  obtain ⟨t9_1, hZ9⟩ := hZ9
  obtain ⟨t10_0, hZ9⟩ := hZ9
  obtain ⟨t10_1, hZ9⟩ := hZ9
  obtain ⟨t11_0, hZ9⟩ := hZ9
  obtain ⟨hT9, hZ9⟩ := hZ9
  obtain ⟨hT10, hZ9⟩ := hZ9
  obtain ⟨hT11, hZ9⟩ := hZ9
  obtain ⟨vd2, hbd2⟩ := hZ9
  obtain ⟨t12_0, hZ9⟩ := hC.2.1 i4 hi4
  obtain ⟨t12_1, hZ9⟩ := hZ9
  obtain ⟨t13_0, hZ9⟩ := hZ9
  obtain ⟨t13_1, hZ9⟩ := hZ9
  obtain ⟨t14_0, hZ9⟩ := hZ9
  obtain ⟨hT12, hZ9⟩ := hZ9
  obtain ⟨hT13, hZ9⟩ := hZ9
  obtain ⟨hT14, hZ9⟩ := hZ9
  obtain ⟨vd4, hbd4⟩ := hZ9
  have hq := T_quotient_ab (x2 := x2) (x3 := x3) (x4 := x4) (x5 := x5) (x6 := x6) (t0_0 := t0_0) (t0_1 := t0_1) (t1_0 := t1_0) (t1_1 := t1_1) (t2_0 := t2_0) (t3_0 := t3_0) (t3_1 := t3_1) (t4_0 := t4_0) (t5_0 := t5_0) (t5_1 := t5_1) (t6_0 := t6_0) (t7_0 := t7_0) (t7_1 := t7_1) (t8_0 := t8_0) (t9_0 := t9_0) (t9_1 := t9_1) (t10_0 := t10_0) (t10_1 := t10_1) (t11_0 := t11_0) (t12_0 := t12_0) (t12_1 := t12_1) (t13_0 := t13_0) (t13_1 := t13_1) (t14_0 := t14_0) hbd2 ⟨_, hbd4⟩
  refine q_MxV (X_NH_quotient_ab l D g q ws x2 x3 x4 x5 x6 (68 + 5 * i2) (n_d g q hi2) (by omega) (fun h => by have z := e2 h; omega) (fun h => by have z := e3 h; omega) (68 + 5 * i4) (n_d g q hi4) (by omega) (fun h => by have z := e4 h; omega) (by omega) (by omega) (by omega) (by omega) (by omega) hlt hI t0_0 t0_1 hT0 t1_0 t1_1 hT1 t2_0 hT2 t3_0 t3_1 hT3 t4_0 hT4 t5_0 t5_1 hT5 t6_0 hT6 t7_0 t7_1 hT7 t8_0 hT8 t9_0 t9_1 hT9 t10_0 t10_1 hT10 t11_0 hT11 t12_0 t12_1 hT12 t13_0 t13_1 hT13 t14_0 hT14 ⟨trivial, hq.1⟩ sz) ?_ ?_
  · rintro u hZ9
    obtain ⟨hI2, hZ9⟩ := hZ9
    obtain ⟨hun, hZ9⟩ := hZ9
    obtain ⟨u0_0, hZ9⟩ := hZ9
    obtain ⟨u0_1, hZ9⟩ := hZ9
    obtain ⟨u1_0, hZ9⟩ := hZ9
    obtain ⟨u1_1, hZ9⟩ := hZ9
    obtain ⟨u2_0, hZ9⟩ := hZ9
    obtain ⟨u3_0, hZ9⟩ := hZ9
    obtain ⟨u3_1, hZ9⟩ := hZ9
    obtain ⟨u4_0, hZ9⟩ := hZ9
    obtain ⟨u5_0, hZ9⟩ := hZ9
    obtain ⟨u5_1, hZ9⟩ := hZ9
    obtain ⟨u6_0, hZ9⟩ := hZ9
    obtain ⟨u7_0, hZ9⟩ := hZ9
    obtain ⟨u7_1, hZ9⟩ := hZ9
    obtain ⟨u8_0, hZ9⟩ := hZ9
    obtain ⟨u10_0, hZ9⟩ := hZ9
    obtain ⟨u10_1, hZ9⟩ := hZ9
    obtain ⟨u11_0, hZ9⟩ := hZ9
    obtain ⟨u12_0, hZ9⟩ := hZ9
    obtain ⟨u12_1, hZ9⟩ := hZ9
    obtain ⟨u13_0, hZ9⟩ := hZ9
    obtain ⟨u13_1, hZ9⟩ := hZ9
    obtain ⟨u14_0, hZ9⟩ := hZ9
    obtain ⟨hU0, hZ9⟩ := hZ9
    obtain ⟨hU1, hZ9⟩ := hZ9
    obtain ⟨hU2, hZ9⟩ := hZ9
    obtain ⟨hU3, hZ9⟩ := hZ9
    obtain ⟨hU4, hZ9⟩ := hZ9
    obtain ⟨hU5, hZ9⟩ := hZ9
    obtain ⟨hU6, hZ9⟩ := hZ9
    obtain ⟨hU7, hZ9⟩ := hZ9
    obtain ⟨hU8, hZ9⟩ := hZ9
    obtain ⟨hU9, hZ9⟩ := hZ9
    obtain ⟨hU10, hZ9⟩ := hZ9
    obtain ⟨hU11, hZ9⟩ := hZ9
    obtain ⟨hU12, hZ9⟩ := hZ9
    obtain ⟨hU13, hR⟩ := hZ9
    have hF := hR.2.2.2.2.2.2.2.2.2.2.2.2.2.2.2.2.2.2.2.2.2.2.2.2.2.2.2.2.2.2.2.2.2.2.2.2.2.2.2.2.2.2.2.2.2.2.2.2.2.2.2.2.2.2.2.2.2.2.2.2.2.2.2.2.2.2.2.2.2.2.2.2.2.2.2.2.2.2.2.2.2.2.2.2.2.2.2.2.2.2.2.2.2.2.2.2.2.2.2.2.2.2.2.2.2.2
    have hp := hq.2
    rw [← hF] at hp
    refine ⟨hI2, ⟨fun i hi => ?_, fun i hi => ?_, ?_⟩, fun i hi => hun i (by simp only [List.mem_cons, List.not_mem_nil, or_false, not_or]; omega)⟩
    · exact iW_fr (hC.1 i hi) (hun _ (by simp only [List.mem_cons, List.not_mem_nil, or_false, not_or]; omega)) (hun _ (by simp only [List.mem_cons, List.not_mem_nil, or_false, not_or]; omega))
    · by_cases hd2 : i = i2
      · rw [hd2]; refine ⟨_, _, _, _, _, ((hun _ (by simp only [List.mem_cons, List.not_mem_nil, or_false, not_or]; omega)).trans hT9), hU9, hU10, ?_⟩; first | exact ⟨_, hp.2⟩
      · by_cases hd4 : i = i4
        · rw [hd4]; refine ⟨_, _, _, _, _, hU11, hU12, hU13, ?_⟩; first | exact hp.1
        · exact iD_fr (hC.2.1 i hi) (hun _ (by simp only [List.mem_cons, List.not_mem_nil, or_false, not_or]; omega)) (hun _ (by simp only [List.mem_cons, List.not_mem_nil, or_false, not_or]; omega)) (hun _ (by simp only [List.mem_cons, List.not_mem_nil, or_false, not_or]; omega))
    · exact iO_fr hC.2.2 (hun _ (by simp only [List.mem_cons, List.not_mem_nil, or_false, not_or]; omega)) (hun _ (by simp only [List.mem_cons, List.not_mem_nil, or_false, not_or]; omega)) (hun _ (by simp only [List.mem_cons, List.not_mem_nil, or_false, not_or]; omega))
  · rintro E u hZ9
    obtain ⟨c, hZ9⟩ := hZ9
    obtain ⟨hE, hZ9⟩ := hZ9
    obtain ⟨hc, hZ9⟩ := hZ9
    obtain ⟨hI2, hZ9⟩ := hZ9
    obtain ⟨hun, hZ9⟩ := hZ9
    obtain ⟨u0_0, hZ9⟩ := hZ9
    obtain ⟨u0_1, hZ9⟩ := hZ9
    obtain ⟨u1_0, hZ9⟩ := hZ9
    obtain ⟨u1_1, hZ9⟩ := hZ9
    obtain ⟨u2_0, hZ9⟩ := hZ9
    obtain ⟨u3_0, hZ9⟩ := hZ9
    obtain ⟨u3_1, hZ9⟩ := hZ9
    obtain ⟨u4_0, hZ9⟩ := hZ9
    obtain ⟨u5_0, hZ9⟩ := hZ9
    obtain ⟨u5_1, hZ9⟩ := hZ9
    obtain ⟨u6_0, hZ9⟩ := hZ9
    obtain ⟨u7_0, hZ9⟩ := hZ9
    obtain ⟨u7_1, hZ9⟩ := hZ9
    obtain ⟨u8_0, hZ9⟩ := hZ9
    obtain ⟨u10_0, hZ9⟩ := hZ9
    obtain ⟨u10_1, hZ9⟩ := hZ9
    obtain ⟨u11_0, hZ9⟩ := hZ9
    obtain ⟨u12_0, hZ9⟩ := hZ9
    obtain ⟨u12_1, hZ9⟩ := hZ9
    obtain ⟨u13_0, hZ9⟩ := hZ9
    obtain ⟨u13_1, hZ9⟩ := hZ9
    obtain ⟨u14_0, hZ9⟩ := hZ9
    obtain ⟨hU0, hZ9⟩ := hZ9
    obtain ⟨hU1, hZ9⟩ := hZ9
    obtain ⟨hU2, hZ9⟩ := hZ9
    obtain ⟨hU3, hZ9⟩ := hZ9
    obtain ⟨hU4, hZ9⟩ := hZ9
    obtain ⟨hU5, hZ9⟩ := hZ9
    obtain ⟨hU6, hZ9⟩ := hZ9
    obtain ⟨hU7, hZ9⟩ := hZ9
    obtain ⟨hU8, hZ9⟩ := hZ9
    obtain ⟨hU9, hZ9⟩ := hZ9
    obtain ⟨hU10, hZ9⟩ := hZ9
    obtain ⟨hU11, hZ9⟩ := hZ9
    obtain ⟨hU12, hZ9⟩ := hZ9
    obtain ⟨hU13, hF⟩ := hZ9
    have hp := hq.2
    rw [← hF] at hp
    have hk := K_NH_quotient_ab (x2 := x2) (x3 := x3) (x4 := x4) (x5 := x5) (x6 := x6) (t0_0 := t0_0) (t0_1 := t0_1) (t1_0 := t1_0) (t1_1 := t1_1) (t2_0 := t2_0) (t3_0 := t3_0) (t3_1 := t3_1) (t4_0 := t4_0) (t5_0 := t5_0) (t5_1 := t5_1) (t6_0 := t6_0) (t7_0 := t7_0) (t7_1 := t7_1) (t8_0 := t8_0) (t9_0 := t9_0) (t9_1 := t9_1) (t10_0 := t10_0) (t10_1 := t10_1) (t11_0 := t11_0) (t12_0 := t12_0) (t12_1 := t12_1) (t13_0 := t13_0) (t13_1 := t13_1) (t14_0 := t14_0)
    rw [← hF] at hk
    replace hk : kC12 c := hk
    refine ⟨⟨c, hE, hk.resolve_left hc⟩, hI2, ⟨fun i hi => ?_, fun i hi => ?_, ?_⟩, fun i hi => hun i (by simp only [List.mem_cons, List.not_mem_nil, or_false, not_or]; omega)⟩
    · exact iW_fr (hC.1 i hi) (hun _ (by simp only [List.mem_cons, List.not_mem_nil, or_false, not_or]; omega)) (hun _ (by simp only [List.mem_cons, List.not_mem_nil, or_false, not_or]; omega))
    · by_cases hd2 : i = i2
      · rw [hd2]; refine ⟨_, _, _, _, _, ((hun _ (by simp only [List.mem_cons, List.not_mem_nil, or_false, not_or]; omega)).trans hT9), hU9, hU10, ?_⟩; first | exact ⟨_, hp.2⟩
      · by_cases hd4 : i = i4
        · rw [hd4]; refine ⟨_, _, _, _, _, hU11, hU12, hU13, ?_⟩; first | exact hp.1
        · exact iD_fr (hC.2.1 i hi) (hun _ (by simp only [List.mem_cons, List.not_mem_nil, or_false, not_or]; omega)) (hun _ (by simp only [List.mem_cons, List.not_mem_nil, or_false, not_or]; omega)) (hun _ (by simp only [List.mem_cons, List.not_mem_nil, or_false, not_or]; omega))
    · exact iO_fr hC.2.2 (hun _ (by simp only [List.mem_cons, List.not_mem_nil, or_false, not_or]; omega)) (hun _ (by simp only [List.mem_cons, List.not_mem_nil, or_false, not_or]; omega)) (hun _ (by simp only [List.mem_cons, List.not_mem_nil, or_false, not_or]; omega))
set_option maxRecDepth 100000 in
theorem CV_quotient_bt (l : Launch) (D : va_G) (g : Nat → ClassId) (q : Nat → Nat) (ws : va_W) (x2 : Int32) (x3 : Int32) (x4 : Int32) (x5 : Int32) (x6 : Int32) (i2 : Nat) (hi2 : i2 < 10) (i3 : Nat) (hi3 : i3 < 10) (e2 : x2.toNatClampNeg < 10 → i2 = x2.toNatClampNeg) (e3 : x3.toNatClampNeg < 10 → i3 = x3.toNatClampNeg) (e4 : x4.toNatClampNeg < 10 → i3 = x4.toNatClampNeg) (nei2i3 : i2 ≠ i3) (hlt : l.stackTraces = false) (hI : q_I (nsh g q) q ws) (hC : iC g q ws) : ∀ sz, q_Mx l y_NH_quotient prog_1_method_14_code 6 none 9 5 30 D g [.ref (q 0), .int x2, .int x3, .int x4, .int x5, .int x6] ws sz (va_Qv (fun u => iP g q ws u) (q_B D g (va_A ws sz)) (va_A ws sz)) (fun E u => (∃ c : Int32, E = qE c ∧ (c = 1 ∨ c = 2)) ∧ iP g q ws u) := by
  intro sz
  obtain ⟨t0_0, t0_1, hT0, bT0⟩ := n_o30 hI
  obtain ⟨t1_0, t1_1, hT1, bT1⟩ := q_bigO hI (n_b10 g q)
  obtain ⟨t2_0, hT2, bT2⟩ := n_ai hI (n_s11 g q)
  obtain ⟨t3_0, t3_1, hT3, bT3⟩ := q_bigO hI (n_b12 g q)
  obtain ⟨t4_0, hT4, bT4⟩ := n_ai hI (n_s13 g q)
  obtain ⟨t5_0, t5_1, hT5, bT5⟩ := q_bigO hI (n_b22 g q)
  obtain ⟨t6_0, hT6, bT6⟩ := n_ai hI (n_s23 g q)
  obtain ⟨t7_0, t7_1, hT7, bT7⟩ := q_bigO hI (n_b20 g q)
  obtain ⟨t8_0, hT8, bT8⟩ := n_ai hI (n_s21 g q)
  obtain ⟨t9_0, hZ9⟩ := hC.2.1 i2 hi2
  obtain ⟨t9_1, hZ9⟩ := hZ9
  obtain ⟨t10_0, hZ9⟩ := hZ9
  obtain ⟨t10_1, hZ9⟩ := hZ9
  obtain ⟨t11_0, hZ9⟩ := hZ9
  obtain ⟨hT9, hZ9⟩ := hZ9
  obtain ⟨hT10, hZ9⟩ := hZ9
  obtain ⟨hT11, hZ9⟩ := hZ9
  obtain ⟨vd2, hbd2⟩ := hZ9
  obtain ⟨t12_0, hZ9⟩ := hC.2.1 i3 hi3
  obtain ⟨t12_1, hZ9⟩ := hZ9
  obtain ⟨t13_0, hZ9⟩ := hZ9
  obtain ⟨t13_1, hZ9⟩ := hZ9
  obtain ⟨t14_0, hZ9⟩ := hZ9
  obtain ⟨hT12, hZ9⟩ := hZ9
  obtain ⟨hT13, hZ9⟩ := hZ9
  obtain ⟨hT14, hZ9⟩ := hZ9
  obtain ⟨vd3, hbd3⟩ := hZ9
  have hq := T_quotient_bt (x2 := x2) (x3 := x3) (x4 := x4) (x5 := x5) (x6 := x6) (t0_0 := t0_0) (t0_1 := t0_1) (t1_0 := t1_0) (t1_1 := t1_1) (t2_0 := t2_0) (t3_0 := t3_0) (t3_1 := t3_1) (t4_0 := t4_0) (t5_0 := t5_0) (t5_1 := t5_1) (t6_0 := t6_0) (t7_0 := t7_0) (t7_1 := t7_1) (t8_0 := t8_0) (t9_0 := t9_0) (t9_1 := t9_1) (t10_0 := t10_0) (t10_1 := t10_1) (t11_0 := t11_0) (t12_0 := t12_0) (t12_1 := t12_1) (t13_0 := t13_0) (t13_1 := t13_1) (t14_0 := t14_0) hbd2 hbd3
  refine q_MxV (X_NH_quotient_bt l D g q ws x2 x3 x4 x5 x6 (68 + 5 * i2) (n_d g q hi2) (by omega) (fun h => by have z := e2 h; omega) (68 + 5 * i3) (n_d g q hi3) (by omega) (fun h => by have z := e3 h; omega) (fun h => by have z := e4 h; omega) (by omega) (by omega) (by omega) (by omega) (by omega) hlt hI t0_0 t0_1 hT0 t1_0 t1_1 hT1 t2_0 hT2 t3_0 t3_1 hT3 t4_0 hT4 t5_0 t5_1 hT5 t6_0 hT6 t7_0 t7_1 hT7 t8_0 hT8 t9_0 t9_1 hT9 t10_0 t10_1 hT10 t11_0 hT11 t12_0 t12_1 hT12 t13_0 t13_1 hT13 t14_0 hT14 ⟨trivial, hq.1⟩ sz) ?_ ?_
  · rintro u hZ9
    obtain ⟨hI2, hZ9⟩ := hZ9
    obtain ⟨hun, hZ9⟩ := hZ9
    obtain ⟨u0_0, hZ9⟩ := hZ9
    obtain ⟨u0_1, hZ9⟩ := hZ9
    obtain ⟨u1_0, hZ9⟩ := hZ9
    obtain ⟨u1_1, hZ9⟩ := hZ9
    obtain ⟨u2_0, hZ9⟩ := hZ9
    obtain ⟨u3_0, hZ9⟩ := hZ9
    obtain ⟨u3_1, hZ9⟩ := hZ9
    obtain ⟨u4_0, hZ9⟩ := hZ9
    obtain ⟨u5_0, hZ9⟩ := hZ9
    obtain ⟨u5_1, hZ9⟩ := hZ9
    obtain ⟨u6_0, hZ9⟩ := hZ9
    obtain ⟨u7_0, hZ9⟩ := hZ9
    obtain ⟨u7_1, hZ9⟩ := hZ9
    obtain ⟨u8_0, hZ9⟩ := hZ9
    obtain ⟨u12_0, hZ9⟩ := hZ9
    obtain ⟨u12_1, hZ9⟩ := hZ9
    obtain ⟨u13_0, hZ9⟩ := hZ9
    obtain ⟨u13_1, hZ9⟩ := hZ9
    obtain ⟨u14_0, hZ9⟩ := hZ9
    obtain ⟨hU0, hZ9⟩ := hZ9
    obtain ⟨hU1, hZ9⟩ := hZ9
    obtain ⟨hU2, hZ9⟩ := hZ9
    obtain ⟨hU3, hZ9⟩ := hZ9
    obtain ⟨hU4, hZ9⟩ := hZ9
    obtain ⟨hU5, hZ9⟩ := hZ9
    obtain ⟨hU6, hZ9⟩ := hZ9
    obtain ⟨hU7, hZ9⟩ := hZ9
    obtain ⟨hU8, hZ9⟩ := hZ9
    obtain ⟨hU9, hZ9⟩ := hZ9
    obtain ⟨hU10, hZ9⟩ := hZ9
    obtain ⟨hU11, hR⟩ := hZ9
    have hF := hR.2.2.2.2.2.2.2.2.2.2.2.2.2.2.2.2.2.2.2.2.2.2.2.2.2.2.2.2.2.2.2.2.2.2.2.2.2.2.2.2.2.2.2.2.2.2.2.2.2.2.2.2.2.2.2.2.2.2.2.2.2.2.2.2.2.2.2.2.2.2.2.2.2.2.2.2.2.2.2.2.2.2.2.2.2.2.2.2.2.2.2.2.2
    have hp := hq.2
    rw [← hF] at hp
    refine ⟨hI2, ⟨fun i hi => ?_, fun i hi => ?_, ?_⟩, fun i hi => hun i (by simp only [List.mem_cons, List.not_mem_nil, or_false, not_or]; omega)⟩
    · exact iW_fr (hC.1 i hi) (hun _ (by simp only [List.mem_cons, List.not_mem_nil, or_false, not_or]; omega)) (hun _ (by simp only [List.mem_cons, List.not_mem_nil, or_false, not_or]; omega))
    · by_cases hd3 : i = i3
      · rw [hd3]; refine ⟨_, _, _, _, _, hU9, hU10, hU11, ?_⟩; first | exact hp
      · exact iD_fr (hC.2.1 i hi) (hun _ (by simp only [List.mem_cons, List.not_mem_nil, or_false, not_or]; omega)) (hun _ (by simp only [List.mem_cons, List.not_mem_nil, or_false, not_or]; omega)) (hun _ (by simp only [List.mem_cons, List.not_mem_nil, or_false, not_or]; omega))
    · exact iO_fr hC.2.2 (hun _ (by simp only [List.mem_cons, List.not_mem_nil, or_false, not_or]; omega)) (hun _ (by simp only [List.mem_cons, List.not_mem_nil, or_false, not_or]; omega)) (hun _ (by simp only [List.mem_cons, List.not_mem_nil, or_false, not_or]; omega))
  · rintro E u hZ9
    obtain ⟨c, hZ9⟩ := hZ9
    obtain ⟨hE, hZ9⟩ := hZ9
    obtain ⟨hc, hZ9⟩ := hZ9
    obtain ⟨hI2, hZ9⟩ := hZ9
    obtain ⟨hun, hZ9⟩ := hZ9
    obtain ⟨u0_0, hZ9⟩ := hZ9
    obtain ⟨u0_1, hZ9⟩ := hZ9
    obtain ⟨u1_0, hZ9⟩ := hZ9
    obtain ⟨u1_1, hZ9⟩ := hZ9
    obtain ⟨u2_0, hZ9⟩ := hZ9
    obtain ⟨u3_0, hZ9⟩ := hZ9
    obtain ⟨u3_1, hZ9⟩ := hZ9
    obtain ⟨u4_0, hZ9⟩ := hZ9
    obtain ⟨u5_0, hZ9⟩ := hZ9
    obtain ⟨u5_1, hZ9⟩ := hZ9
    obtain ⟨u6_0, hZ9⟩ := hZ9
    obtain ⟨u7_0, hZ9⟩ := hZ9
    obtain ⟨u7_1, hZ9⟩ := hZ9
    obtain ⟨u8_0, hZ9⟩ := hZ9
    obtain ⟨u12_0, hZ9⟩ := hZ9
    obtain ⟨u12_1, hZ9⟩ := hZ9
    obtain ⟨u13_0, hZ9⟩ := hZ9
    obtain ⟨u13_1, hZ9⟩ := hZ9
    obtain ⟨u14_0, hZ9⟩ := hZ9
    obtain ⟨hU0, hZ9⟩ := hZ9
    obtain ⟨hU1, hZ9⟩ := hZ9
    obtain ⟨hU2, hZ9⟩ := hZ9
    obtain ⟨hU3, hZ9⟩ := hZ9
    obtain ⟨hU4, hZ9⟩ := hZ9
    obtain ⟨hU5, hZ9⟩ := hZ9
    obtain ⟨hU6, hZ9⟩ := hZ9
    obtain ⟨hU7, hZ9⟩ := hZ9
    obtain ⟨hU8, hZ9⟩ := hZ9
    obtain ⟨hU9, hZ9⟩ := hZ9
    obtain ⟨hU10, hZ9⟩ := hZ9
    obtain ⟨hU11, hF⟩ := hZ9
    have hp := hq.2
    rw [← hF] at hp
    have hk := K_NH_quotient_bt (x2 := x2) (x3 := x3) (x4 := x4) (x5 := x5) (x6 := x6) (t0_0 := t0_0) (t0_1 := t0_1) (t1_0 := t1_0) (t1_1 := t1_1) (t2_0 := t2_0) (t3_0 := t3_0) (t3_1 := t3_1) (t4_0 := t4_0) (t5_0 := t5_0) (t5_1 := t5_1) (t6_0 := t6_0) (t7_0 := t7_0) (t7_1 := t7_1) (t8_0 := t8_0) (t9_0 := t9_0) (t9_1 := t9_1) (t10_0 := t10_0) (t10_1 := t10_1) (t11_0 := t11_0) (t12_0 := t12_0) (t12_1 := t12_1) (t13_0 := t13_0) (t13_1 := t13_1) (t14_0 := t14_0)
    rw [← hF] at hk
    replace hk : kC12 c := hk
    refine ⟨⟨c, hE, hk.resolve_left hc⟩, hI2, ⟨fun i hi => ?_, fun i hi => ?_, ?_⟩, fun i hi => hun i (by simp only [List.mem_cons, List.not_mem_nil, or_false, not_or]; omega)⟩
    · exact iW_fr (hC.1 i hi) (hun _ (by simp only [List.mem_cons, List.not_mem_nil, or_false, not_or]; omega)) (hun _ (by simp only [List.mem_cons, List.not_mem_nil, or_false, not_or]; omega))
    · by_cases hd3 : i = i3
      · rw [hd3]; refine ⟨_, _, _, _, _, hU9, hU10, hU11, ?_⟩; first | exact hp
      · exact iD_fr (hC.2.1 i hi) (hun _ (by simp only [List.mem_cons, List.not_mem_nil, or_false, not_or]; omega)) (hun _ (by simp only [List.mem_cons, List.not_mem_nil, or_false, not_or]; omega)) (hun _ (by simp only [List.mem_cons, List.not_mem_nil, or_false, not_or]; omega))
    · exact iO_fr hC.2.2 (hun _ (by simp only [List.mem_cons, List.not_mem_nil, or_false, not_or]; omega)) (hun _ (by simp only [List.mem_cons, List.not_mem_nil, or_false, not_or]; omega)) (hun _ (by simp only [List.mem_cons, List.not_mem_nil, or_false, not_or]; omega))
set_option maxRecDepth 100000 in
theorem CV_quotient_abt (l : Launch) (D : va_G) (g : Nat → ClassId) (q : Nat → Nat) (ws : va_W) (x2 : Int32) (x3 : Int32) (x4 : Int32) (x5 : Int32) (x6 : Int32) (i2 : Nat) (hi2 : i2 < 10) (e2 : x2.toNatClampNeg < 10 → i2 = x2.toNatClampNeg) (e3 : x3.toNatClampNeg < 10 → i2 = x3.toNatClampNeg) (e4 : x4.toNatClampNeg < 10 → i2 = x4.toNatClampNeg) (hlt : l.stackTraces = false) (hI : q_I (nsh g q) q ws) (hC : iC g q ws) : ∀ sz, q_Mx l y_NH_quotient prog_1_method_14_code 6 none 9 5 30 D g [.ref (q 0), .int x2, .int x3, .int x4, .int x5, .int x6] ws sz (va_Qv (fun u => iP g q ws u) (q_B D g (va_A ws sz)) (va_A ws sz)) (fun E u => (∃ c : Int32, E = qE c ∧ (c = 1 ∨ c = 2)) ∧ iP g q ws u) := by
  intro sz
  obtain ⟨t0_0, t0_1, hT0, bT0⟩ := n_o30 hI
  obtain ⟨t1_0, t1_1, hT1, bT1⟩ := q_bigO hI (n_b10 g q)
  obtain ⟨t2_0, hT2, bT2⟩ := n_ai hI (n_s11 g q)
  obtain ⟨t3_0, t3_1, hT3, bT3⟩ := q_bigO hI (n_b12 g q)
  obtain ⟨t4_0, hT4, bT4⟩ := n_ai hI (n_s13 g q)
  obtain ⟨t5_0, t5_1, hT5, bT5⟩ := q_bigO hI (n_b22 g q)
  obtain ⟨t6_0, hT6, bT6⟩ := n_ai hI (n_s23 g q)
  obtain ⟨t7_0, t7_1, hT7, bT7⟩ := q_bigO hI (n_b20 g q)
  obtain ⟨t8_0, hT8, bT8⟩ := n_ai hI (n_s21 g q)
  obtain ⟨t9_0, hZ9⟩ := hC.2.1 i2 hi2
  obtain ⟨t9_1, hZ9⟩ := hZ9
  obtain ⟨t10_0, hZ9⟩ := hZ9
  obtain ⟨t10_1, hZ9⟩ := hZ9
  obtain ⟨t11_0, hZ9⟩ := hZ9
  obtain ⟨hT9, hZ9⟩ := hZ9
  obtain ⟨hT10, hZ9⟩ := hZ9
  obtain ⟨hT11, hZ9⟩ := hZ9
  obtain ⟨vd2, hbd2⟩ := hZ9
  have hq := T_quotient_abt (x2 := x2) (x3 := x3) (x4 := x4) (x5 := x5) (x6 := x6) (t0_0 := t0_0) (t0_1 := t0_1) (t1_0 := t1_0) (t1_1 := t1_1) (t2_0 := t2_0) (t3_0 := t3_0) (t3_1 := t3_1) (t4_0 := t4_0) (t5_0 := t5_0) (t5_1 := t5_1) (t6_0 := t6_0) (t7_0 := t7_0) (t7_1 := t7_1) (t8_0 := t8_0) (t9_0 := t9_0) (t9_1 := t9_1) (t10_0 := t10_0) (t10_1 := t10_1) (t11_0 := t11_0) hbd2
  refine q_MxV (X_NH_quotient_abt l D g q ws x2 x3 x4 x5 x6 (68 + 5 * i2) (n_d g q hi2) (by omega) (fun h => by have z := e2 h; omega) (fun h => by have z := e3 h; omega) (fun h => by have z := e4 h; omega) hlt hI t0_0 t0_1 hT0 t1_0 t1_1 hT1 t2_0 hT2 t3_0 t3_1 hT3 t4_0 hT4 t5_0 t5_1 hT5 t6_0 hT6 t7_0 t7_1 hT7 t8_0 hT8 t9_0 t9_1 hT9 t10_0 t10_1 hT10 t11_0 hT11 ⟨trivial, hq.1⟩ sz) ?_ ?_
  · rintro u hZ9
    obtain ⟨hI2, hZ9⟩ := hZ9
    obtain ⟨hun, hZ9⟩ := hZ9
    obtain ⟨u0_0, hZ9⟩ := hZ9
    obtain ⟨u0_1, hZ9⟩ := hZ9
    obtain ⟨u1_0, hZ9⟩ := hZ9
    obtain ⟨u1_1, hZ9⟩ := hZ9
    obtain ⟨u2_0, hZ9⟩ := hZ9
    obtain ⟨u3_0, hZ9⟩ := hZ9
    obtain ⟨u3_1, hZ9⟩ := hZ9
    obtain ⟨u4_0, hZ9⟩ := hZ9
    obtain ⟨u5_0, hZ9⟩ := hZ9
    obtain ⟨u5_1, hZ9⟩ := hZ9
    obtain ⟨u6_0, hZ9⟩ := hZ9
    obtain ⟨u7_0, hZ9⟩ := hZ9
    obtain ⟨u7_1, hZ9⟩ := hZ9
    obtain ⟨u8_0, hZ9⟩ := hZ9
    obtain ⟨u9_0, hZ9⟩ := hZ9
    obtain ⟨u9_1, hZ9⟩ := hZ9
    obtain ⟨u10_0, hZ9⟩ := hZ9
    obtain ⟨u10_1, hZ9⟩ := hZ9
    obtain ⟨u11_0, hZ9⟩ := hZ9
    obtain ⟨hU0, hZ9⟩ := hZ9
    obtain ⟨hU1, hZ9⟩ := hZ9
    obtain ⟨hU2, hZ9⟩ := hZ9
    obtain ⟨hU3, hZ9⟩ := hZ9
    obtain ⟨hU4, hZ9⟩ := hZ9
    obtain ⟨hU5, hZ9⟩ := hZ9
    obtain ⟨hU6, hZ9⟩ := hZ9
    obtain ⟨hU7, hZ9⟩ := hZ9
    obtain ⟨hU8, hZ9⟩ := hZ9
    obtain ⟨hU9, hZ9⟩ := hZ9
    obtain ⟨hU10, hZ9⟩ := hZ9
    obtain ⟨hU11, hR⟩ := hZ9
    have hF := hR.2.2.2.2.2.2.2.2.2.2.2.2.2.2.2.2.2.2.2.2.2.2.2.2.2.2.2.2.2.2.2.2.2.2.2.2.2.2.2.2.2.2.2.2.2.2.2.2.2.2.2.2.2.2.2.2.2.2.2.2.2.2.2.2.2.2.2.2.2.2.2.2.2.2.2.2.2.2.2.2.2.2.2.2.2.2.2.2.2.2.2.2.2
    have hp := hq.2
    rw [← hF] at hp
    refine ⟨hI2, ⟨fun i hi => ?_, fun i hi => ?_, ?_⟩, fun i hi => hun i (by simp only [List.mem_cons, List.not_mem_nil, or_false, not_or]; omega)⟩
    · exact iW_fr (hC.1 i hi) (hun _ (by simp only [List.mem_cons, List.not_mem_nil, or_false, not_or]; omega)) (hun _ (by simp only [List.mem_cons, List.not_mem_nil, or_false, not_or]; omega))
    · by_cases hd2 : i = i2
      · rw [hd2]; refine ⟨_, _, _, _, _, hU9, hU10, hU11, ?_⟩; first | exact hp
      · exact iD_fr (hC.2.1 i hi) (hun _ (by simp only [List.mem_cons, List.not_mem_nil, or_false, not_or]; omega)) (hun _ (by simp only [List.mem_cons, List.not_mem_nil, or_false, not_or]; omega)) (hun _ (by simp only [List.mem_cons, List.not_mem_nil, or_false, not_or]; omega))
    · exact iO_fr hC.2.2 (hun _ (by simp only [List.mem_cons, List.not_mem_nil, or_false, not_or]; omega)) (hun _ (by simp only [List.mem_cons, List.not_mem_nil, or_false, not_or]; omega)) (hun _ (by simp only [List.mem_cons, List.not_mem_nil, or_false, not_or]; omega))
  · rintro E u hZ9
    obtain ⟨c, hZ9⟩ := hZ9
    obtain ⟨hE, hZ9⟩ := hZ9
    obtain ⟨hc, hZ9⟩ := hZ9
    obtain ⟨hI2, hZ9⟩ := hZ9
    obtain ⟨hun, hZ9⟩ := hZ9
    obtain ⟨u0_0, hZ9⟩ := hZ9
    obtain ⟨u0_1, hZ9⟩ := hZ9
    obtain ⟨u1_0, hZ9⟩ := hZ9
    obtain ⟨u1_1, hZ9⟩ := hZ9
    obtain ⟨u2_0, hZ9⟩ := hZ9
    obtain ⟨u3_0, hZ9⟩ := hZ9
    obtain ⟨u3_1, hZ9⟩ := hZ9
    obtain ⟨u4_0, hZ9⟩ := hZ9
    obtain ⟨u5_0, hZ9⟩ := hZ9
    obtain ⟨u5_1, hZ9⟩ := hZ9
    obtain ⟨u6_0, hZ9⟩ := hZ9
    obtain ⟨u7_0, hZ9⟩ := hZ9
    obtain ⟨u7_1, hZ9⟩ := hZ9
    obtain ⟨u8_0, hZ9⟩ := hZ9
    obtain ⟨u9_0, hZ9⟩ := hZ9
    obtain ⟨u9_1, hZ9⟩ := hZ9
    obtain ⟨u10_0, hZ9⟩ := hZ9
    obtain ⟨u10_1, hZ9⟩ := hZ9
    obtain ⟨u11_0, hZ9⟩ := hZ9
    obtain ⟨hU0, hZ9⟩ := hZ9
    obtain ⟨hU1, hZ9⟩ := hZ9
    obtain ⟨hU2, hZ9⟩ := hZ9
    obtain ⟨hU3, hZ9⟩ := hZ9
    obtain ⟨hU4, hZ9⟩ := hZ9
    obtain ⟨hU5, hZ9⟩ := hZ9
    obtain ⟨hU6, hZ9⟩ := hZ9
    obtain ⟨hU7, hZ9⟩ := hZ9
    obtain ⟨hU8, hZ9⟩ := hZ9
    obtain ⟨hU9, hZ9⟩ := hZ9
    obtain ⟨hU10, hZ9⟩ := hZ9
    obtain ⟨hU11, hF⟩ := hZ9
    have hp := hq.2
    rw [← hF] at hp
    have hk := K_NH_quotient_abt (x2 := x2) (x3 := x3) (x4 := x4) (x5 := x5) (x6 := x6) (t0_0 := t0_0) (t0_1 := t0_1) (t1_0 := t1_0) (t1_1 := t1_1) (t2_0 := t2_0) (t3_0 := t3_0) (t3_1 := t3_1) (t4_0 := t4_0) (t5_0 := t5_0) (t5_1 := t5_1) (t6_0 := t6_0) (t7_0 := t7_0) (t7_1 := t7_1) (t8_0 := t8_0) (t9_0 := t9_0) (t9_1 := t9_1) (t10_0 := t10_0) (t10_1 := t10_1) (t11_0 := t11_0)
    rw [← hF] at hk
    replace hk : kC12 c := hk
    refine ⟨⟨c, hE, hk.resolve_left hc⟩, hI2, ⟨fun i hi => ?_, fun i hi => ?_, ?_⟩, fun i hi => hun i (by simp only [List.mem_cons, List.not_mem_nil, or_false, not_or]; omega)⟩
    · exact iW_fr (hC.1 i hi) (hun _ (by simp only [List.mem_cons, List.not_mem_nil, or_false, not_or]; omega)) (hun _ (by simp only [List.mem_cons, List.not_mem_nil, or_false, not_or]; omega))
    · by_cases hd2 : i = i2
      · rw [hd2]; refine ⟨_, _, _, _, _, hU9, hU10, hU11, ?_⟩; first | exact hp
      · exact iD_fr (hC.2.1 i hi) (hun _ (by simp only [List.mem_cons, List.not_mem_nil, or_false, not_or]; omega)) (hun _ (by simp only [List.mem_cons, List.not_mem_nil, or_false, not_or]; omega)) (hun _ (by simp only [List.mem_cons, List.not_mem_nil, or_false, not_or]; omega))
    · exact iO_fr hC.2.2 (hun _ (by simp only [List.mem_cons, List.not_mem_nil, or_false, not_or]; omega)) (hun _ (by simp only [List.mem_cons, List.not_mem_nil, or_false, not_or]; omega)) (hun _ (by simp only [List.mem_cons, List.not_mem_nil, or_false, not_or]; omega))

