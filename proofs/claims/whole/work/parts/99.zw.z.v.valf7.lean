/-! values, for whole: the reference's wholes of others -/
theorem V_twJ {K_F_NM_toWhole_L96 : Int32 → (Int32 × Int32 × Int32 × Int32 × Int32 × Int32 × Int32 × Int32 × (Nat → Int32) × (Nat → Int32) × (Nat → Int32) × (Nat → Int32) × Int32 × Int32 × Int32 × Int64 × Int32 × Int32 × Int32 × Int32 × Int32 × Int32 × Int32 × (Nat → Int32) × Int32 × Int32 × Int32 × Int32 × Int64 × Int32 × Int32 × Int64 × Int32 × Int64 × Int32 × (Nat → Int32) × (Nat → Int32) × (Nat → Int32) × (Nat → Int32) × (Nat → Int32))} {x2 : Int32} {x3 : Int32} {x4 : Int32} {t0_0 : Int32} {t0_1 : Int32} {t0_2 : Int32} {t1_0 : Int32} {t1_1 : Int32} {t1_2 : Int32} {t1_3 : Int32} {t1_4 : Int32} {t1_5 : Int32} {t1_6 : Int32} {t2_0 : (Nat → Int32)} {t3_0 : (Nat → Int32)} {t4_0 : (Nat → Int32)} {t5_0 : (Nat → Int32)} {t6_0 : Int32} {t6_1 : Int32} {t6_2 : Int32} {t6_3 : Int64} {t6_4 : Int32} {t6_5 : Int32} {t6_6 : Int32} {t6_7 : Int32} {t6_8 : Int32} {t6_9 : Int32} {t6_10 : Int32} {t7_0 : (Nat → Int32)} {t8_0 : (Nat → Int32)} {t9_0 : (Nat → Int32)} {t10_0 : (Nat → Int32)} {t11_0 : (Nat → Int32)} {t12_0 : Int32} {t12_1 : Int32} {t12_2 : Int32} {t12_3 : Int32} {t12_4 : Int64} {t12_5 : Int32} {t12_6 : Int32} {t12_7 : Int64} {t12_8 : Int32} {t12_9 : Int64} {t12_10 : Int32} {t13_0 : (Nat → Int32)} {t14_0 : (Nat → Int32)} {t15_0 : (Nat → Int32)} {t16_0 : (Nat → Int32)} {t17_0 : (Nat → Int32)} {t18_0 : (Nat → Int64)} {p304 : (Int32 × Int32 × Int32 × Int32 × Int64 × Int32 × Int32 × Int32 × Int32 × Int32 × Int32 × Int32 × (Nat → Int32))} {y268 : Int32} {y269 : Int32} {y270 : Int32} {y271 : Int64} {y272 : Int32} {y273 : Int32} {y274 : Int32} {y275 : Int32} {y276 : Int32} {y277 : Int32} {y278 : Int32} {f279 : (Nat → Int32)} {lx324 : Int32} {p366 : (Int32 × (Nat → Int32))} {a357 : Int32} {f358 : (Nat → Int32)} {lx376 : Int32} {W : Nat → Int} {neg : Prop} [Decidable neg] {d t : List Nat} (hd : yDi d) (h0 : 0 < d.length) (e : t = yMin neg ++ d) (hl : t.length ≤ 4100) (hT : yTr f358 t.length (yBr t)) (h2 : lx376.toInt = (t.length : Int)) (hx : yReg x4) (hr : wRv t3_0 t4_0 W) : wAn x4 W (some (yNv neg (yLV d 0))) (F_NM_toWhole_J124 K_F_NM_toWhole_L96 x2 x3 x4 t0_0 t0_1 t0_2 t1_0 t1_1 t1_2 t1_3 t1_4 t1_5 t1_6 t2_0 t3_0 t4_0 t5_0 t6_0 t6_1 t6_2 t6_3 t6_4 t6_5 t6_6 t6_7 t6_8 t6_9 t6_10 t7_0 t8_0 t9_0 t10_0 t11_0 t12_0 t12_1 t12_2 t12_3 t12_4 t12_5 t12_6 t12_7 t12_8 t12_9 t12_10 t13_0 t14_0 t15_0 t16_0 t17_0 t18_0 p304 y268 y269 y270 y271 y272 y273 y274 y275 y276 y277 y278 f279 lx324 p366 a357 f358 lx376).1 (F_NM_toWhole_J124 K_F_NM_toWhole_L96 x2 x3 x4 t0_0 t0_1 t0_2 t1_0 t1_1 t1_2 t1_3 t1_4 t1_5 t1_6 t2_0 t3_0 t4_0 t5_0 t6_0 t6_1 t6_2 t6_3 t6_4 t6_5 t6_6 t6_7 t6_8 t6_9 t6_10 t7_0 t8_0 t9_0 t10_0 t11_0 t12_0 t12_1 t12_2 t12_3 t12_4 t12_5 t12_6 t12_7 t12_8 t12_9 t12_10 t13_0 t14_0 t15_0 t16_0 t17_0 t18_0 p304 y268 y269 y270 y271 y272 y273 y274 y275 y276 y277 y278 f279 lx324 p366 a357 f358 lx376).2.2.2.2.2.2.2.2.2.1 (F_NM_toWhole_J124 K_F_NM_toWhole_L96 x2 x3 x4 t0_0 t0_1 t0_2 t1_0 t1_1 t1_2 t1_3 t1_4 t1_5 t1_6 t2_0 t3_0 t4_0 t5_0 t6_0 t6_1 t6_2 t6_3 t6_4 t6_5 t6_6 t6_7 t6_8 t6_9 t6_10 t7_0 t8_0 t9_0 t10_0 t11_0 t12_0 t12_1 t12_2 t12_3 t12_4 t12_5 t12_6 t12_7 t12_8 t12_9 t12_10 t13_0 t14_0 t15_0 t16_0 t17_0 t18_0 p304 y268 y269 y270 y271 y272 y273 y274 y275 y276 y277 y278 f279 lx324 p366 a357 f358 lx376).2.2.2.2.2.2.2.2.2.2.1 := by
  unfold F_NM_toWhole_J124
  have rd := V_wrd (x2 := x4) (x3 := 10) (t0_0 := t1_0) (t0_1 := t1_1) (t0_2 := lx376) (t0_3 := t1_3) (t0_4 := t1_4) (t0_5 := t1_5) (t0_6 := t1_6) (t4_0 := t5_0) hd h0 e hl hT h2 hx hr rfl
  generalize F_WR_read x4 10 t1_0 t1_1 lx376 t1_3 t1_4 t1_5 t1_6 f358 t3_0 t4_0 t5_0 = s at rd ⊢
  unfold F_NM_toWhole_c168_9
  rcases rd with ⟨a, b, g⟩ | ⟨a, b, g⟩
  · rw [if_neg (y_le0 b)]
    exact Or.inr ⟨Or.inr ⟨_, rfl, by rw [yNv_abs, ← y_65k2]; exact a⟩, rfl, ⟨_, g, fun _ _ => rfl⟩⟩
  · rw [if_pos (by rw [b]; decide)]
    exact Or.inl ⟨_, rfl, by rw [yNv_abs, ← y_65k2]; exact a, rfl, ⟨_, g, fun _ _ => rfl⟩⟩
theorem V_twL {x2 : Int32} {x3 : Int32} {x4 : Int32} {t0_0 : Int32} {t0_1 : Int32} {t0_2 : Int32} {t1_0 : Int32} {t1_1 : Int32} {t1_2 : Int32} {t1_3 : Int32} {t1_4 : Int32} {t1_5 : Int32} {t1_6 : Int32} {t2_0 : (Nat → Int32)} {t3_0 : (Nat → Int32)} {t4_0 : (Nat → Int32)} {t5_0 : (Nat → Int32)} {t6_0 : Int32} {t6_1 : Int32} {t6_2 : Int32} {t6_3 : Int64} {t6_4 : Int32} {t6_5 : Int32} {t6_6 : Int32} {t6_7 : Int32} {t6_8 : Int32} {t6_9 : Int32} {t6_10 : Int32} {t7_0 : (Nat → Int32)} {t8_0 : (Nat → Int32)} {t9_0 : (Nat → Int32)} {t10_0 : (Nat → Int32)} {t11_0 : (Nat → Int32)} {t12_0 : Int32} {t12_1 : Int32} {t12_2 : Int32} {t12_3 : Int32} {t12_4 : Int64} {t12_5 : Int32} {t12_6 : Int32} {t12_7 : Int64} {t12_8 : Int32} {t12_9 : Int64} {t12_10 : Int32} {t13_0 : (Nat → Int32)} {t14_0 : (Nat → Int32)} {t15_0 : (Nat → Int32)} {t16_0 : (Nat → Int32)} {t17_0 : (Nat → Int32)} {t18_0 : (Nat → Int64)} {p304 : (Int32 × Int32 × Int32 × Int32 × Int64 × Int32 × Int32 × Int32 × Int32 × Int32 × Int32 × Int32 × (Nat → Int32))} {y268 : Int32} {y269 : Int32} {y270 : Int32} {y271 : Int64} {y272 : Int32} {y273 : Int32} {y274 : Int32} {y275 : Int32} {y276 : Int32} {y277 : Int32} {y278 : Int32} {f279 : (Nat → Int32)} {lx324 : Int32} {p366 : (Int32 × (Nat → Int32))} {a357 : Int32} {f358 : (Nat → Int32)} {W : Nat → Int} {neg : Prop} [Decidable neg] {d a t : List Nat} {L : Nat} (hd : yDi d) (h0 : 0 < d.length) (e : a = yMin neg ++ d) (hL : L ≤ 4100) (hT : yTr f358 L (yBr t)) (ht : ∀ i, i < a.length → yBr t i = yBr a i) (ha : a357.toInt = (L : Int)) (hal : a.length ≤ L) (hp : a.length = L ∨ yBr t a.length = 46) (hx : yReg x4) (hr : wRv t3_0 t4_0 W) : ∀ (n : Nat) (lx376 : Int32), ∀ i : Nat, lx376.toInt = (i : Int) → i ≤ a.length → a.length < n + i → wAn x4 W (some (yNv neg (yLV d 0))) (F_NM_toWhole_L96 x2 x3 x4 t0_0 t0_1 t0_2 t1_0 t1_1 t1_2 t1_3 t1_4 t1_5 t1_6 t2_0 t3_0 t4_0 t5_0 t6_0 t6_1 t6_2 t6_3 t6_4 t6_5 t6_6 t6_7 t6_8 t6_9 t6_10 t7_0 t8_0 t9_0 t10_0 t11_0 t12_0 t12_1 t12_2 t12_3 t12_4 t12_5 t12_6 t12_7 t12_8 t12_9 t12_10 t13_0 t14_0 t15_0 t16_0 t17_0 t18_0 p304 y268 y269 y270 y271 y272 y273 y274 y275 y276 y277 y278 f279 lx324 p366 a357 f358 n lx376).1 (F_NM_toWhole_L96 x2 x3 x4 t0_0 t0_1 t0_2 t1_0 t1_1 t1_2 t1_3 t1_4 t1_5 t1_6 t2_0 t3_0 t4_0 t5_0 t6_0 t6_1 t6_2 t6_3 t6_4 t6_5 t6_6 t6_7 t6_8 t6_9 t6_10 t7_0 t8_0 t9_0 t10_0 t11_0 t12_0 t12_1 t12_2 t12_3 t12_4 t12_5 t12_6 t12_7 t12_8 t12_9 t12_10 t13_0 t14_0 t15_0 t16_0 t17_0 t18_0 p304 y268 y269 y270 y271 y272 y273 y274 y275 y276 y277 y278 f279 lx324 p366 a357 f358 n lx376).2.2.2.2.2.2.2.2.2.1 (F_NM_toWhole_L96 x2 x3 x4 t0_0 t0_1 t0_2 t1_0 t1_1 t1_2 t1_3 t1_4 t1_5 t1_6 t2_0 t3_0 t4_0 t5_0 t6_0 t6_1 t6_2 t6_3 t6_4 t6_5 t6_6 t6_7 t6_8 t6_9 t6_10 t7_0 t8_0 t9_0 t10_0 t11_0 t12_0 t12_1 t12_2 t12_3 t12_4 t12_5 t12_6 t12_7 t12_8 t12_9 t12_10 t13_0 t14_0 t15_0 t16_0 t17_0 t18_0 p304 y268 y269 y270 y271 y272 y273 y274 y275 y276 y277 y278 f279 lx324 p366 a357 f358 n lx376).2.2.2.2.2.2.2.2.2.2.1 := by
  have no : ∀ i, i < a.length → yBr a i ≠ 46 := by
    intro i hi
    have hl : a.length = (yMin neg).length + d.length := by rw [e, List.length_append]
    by_cases q : i < (yMin neg).length
    · rw [e, yBr_a q]
      rcases y_mnL (b := neg) with ⟨_, m⟩ | ⟨_, m⟩
      · rw [m] at q ⊢
        have : i = 0 := by
          have : ([45] : List Nat).length = 1 := rfl
          omega
        rw [this]
        decide
      · rw [m] at q
        exact absurd q (Nat.not_lt_zero _)
    · have := yBr_b (l := yMin neg) (m := d) (i := i - (yMin neg).length)
      rw [show (yMin neg).length + (i - (yMin neg).length) = i by omega] at this
      rw [e, this]
      have := yBr_d hd (i := i - (yMin neg).length) (by omega)
      omega
  intro n
  induction n with
  | zero =>
    intro lx376 i _ q1 q2
    omega
  | succ n ih =>
    intro lx376 i hi h1 hn
    unfold F_NM_toWhole_L96
    have fin : lx376.toInt = (a.length : Int) → wAn x4 W (some (yNv neg (yLV d 0))) (F_NM_toWhole_J124 (F_NM_toWhole_L96 x2 x3 x4 t0_0 t0_1 t0_2 t1_0 t1_1 t1_2 t1_3 t1_4 t1_5 t1_6 t2_0 t3_0 t4_0 t5_0 t6_0 t6_1 t6_2 t6_3 t6_4 t6_5 t6_6 t6_7 t6_8 t6_9 t6_10 t7_0 t8_0 t9_0 t10_0 t11_0 t12_0 t12_1 t12_2 t12_3 t12_4 t12_5 t12_6 t12_7 t12_8 t12_9 t12_10 t13_0 t14_0 t15_0 t16_0 t17_0 t18_0 p304 y268 y269 y270 y271 y272 y273 y274 y275 y276 y277 y278 f279 lx324 p366 a357 f358 n) x2 x3 x4 t0_0 t0_1 t0_2 t1_0 t1_1 t1_2 t1_3 t1_4 t1_5 t1_6 t2_0 t3_0 t4_0 t5_0 t6_0 t6_1 t6_2 t6_3 t6_4 t6_5 t6_6 t6_7 t6_8 t6_9 t6_10 t7_0 t8_0 t9_0 t10_0 t11_0 t12_0 t12_1 t12_2 t12_3 t12_4 t12_5 t12_6 t12_7 t12_8 t12_9 t12_10 t13_0 t14_0 t15_0 t16_0 t17_0 t18_0 p304 y268 y269 y270 y271 y272 y273 y274 y275 y276 y277 y278 f279 lx324 p366 a357 f358 lx376).1 _ _ := fun q => V_twJ hd h0 e (by omega) (fun j hj => by rw [hT j (by omega), ht j hj]) q hx hr
    by_cases c : a357 ≤ lx376
    · rw [if_pos c]
      have c' := q_leI c
      exact fin (by omega)
    · rw [if_neg c]
      have c' := q_nleI c
      have ix : lx376.toNatClampNeg = i := by show lx376.toInt.toNat = i; omega
      rw [ix]
      have r := hT i (by omega)
      by_cases q : i = a.length
      · have z : yBr t a.length = 46 := by
          rcases hp with z | z
          · omega
          · exact z
        rw [q, z] at r
        rw [q, if_pos (Int32.toInt_inj.mp (by rw [r]; rfl))]
        exact fin (by omega)
      · have nz : ¬ f358 i = 46 := fun z => by
          rw [z, ht i (by omega)] at r
          exact no i (by omega) r.symm
        rw [if_neg nz]
        exact ih (lx376 + 1) (i + 1) (by
          rw [q_addI (y := 1) hi rfl (by omega) (by omega)]
          omega) (by omega) (by omega)
theorem V_twF {x2 : Int32} {x3 : Int32} {x4 : Int32} {t0_0 : Int32} {t0_1 : Int32} {t0_2 : Int32} {t1_0 : Int32} {t1_1 : Int32} {t1_2 : Int32} {t1_3 : Int32} {t1_4 : Int32} {t1_5 : Int32} {t1_6 : Int32} {t2_0 : (Nat → Int32)} {t3_0 : (Nat → Int32)} {t4_0 : (Nat → Int32)} {t5_0 : (Nat → Int32)} {t6_0 : Int32} {t6_1 : Int32} {t6_2 : Int32} {t6_3 : Int64} {t6_4 : Int32} {t6_5 : Int32} {t6_6 : Int32} {t6_7 : Int32} {t6_8 : Int32} {t6_9 : Int32} {t6_10 : Int32} {t7_0 : (Nat → Int32)} {t8_0 : (Nat → Int32)} {t9_0 : (Nat → Int32)} {t10_0 : (Nat → Int32)} {t11_0 : (Nat → Int32)} {t12_0 : Int32} {t12_1 : Int32} {t12_2 : Int32} {t12_3 : Int32} {t12_4 : Int64} {t12_5 : Int32} {t12_6 : Int32} {t12_7 : Int64} {t12_8 : Int32} {t12_9 : Int64} {t12_10 : Int32} {t13_0 : (Nat → Int32)} {t14_0 : (Nat → Int32)} {t15_0 : (Nat → Int32)} {t16_0 : (Nat → Int32)} {t17_0 : (Nat → Int32)} {t18_0 : (Nat → Int64)} {W : Nat → Int} {P T : Nat} {l0 : Int} {w : Nat} (h2 : ¬ x2 = 1) (hk : yKnd x2 P T l0) (hb : yu (F_NM_bitsOf x2 x3 t0_0 t0_1 t0_2 t18_0) = w ∧ yBit P T w) (hf : yEx P T w ≠ T) (hr : wRv t3_0 t4_0 W) (hx : yReg x4) : wAn x4 W (yFW P T l0 w) (F_NM_toWhole x2 x3 x4 t0_0 t0_1 t0_2 t1_0 t1_1 t1_2 t1_3 t1_4 t1_5 t1_6 t2_0 t3_0 t4_0 t5_0 t6_0 t6_1 t6_2 t6_3 t6_4 t6_5 t6_6 t6_7 t6_8 t6_9 t6_10 t7_0 t8_0 t9_0 t10_0 t11_0 t12_0 t12_1 t12_2 t12_3 t12_4 t12_5 t12_6 t12_7 t12_8 t12_9 t12_10 t13_0 t14_0 t15_0 t16_0 t17_0 t18_0).1 (F_NM_toWhole x2 x3 x4 t0_0 t0_1 t0_2 t1_0 t1_1 t1_2 t1_3 t1_4 t1_5 t1_6 t2_0 t3_0 t4_0 t5_0 t6_0 t6_1 t6_2 t6_3 t6_4 t6_5 t6_6 t6_7 t6_8 t6_9 t6_10 t7_0 t8_0 t9_0 t10_0 t11_0 t12_0 t12_1 t12_2 t12_3 t12_4 t12_5 t12_6 t12_7 t12_8 t12_9 t12_10 t13_0 t14_0 t15_0 t16_0 t17_0 t18_0).2.2.2.2.2.2.2.2.2.1 (F_NM_toWhole x2 x3 x4 t0_0 t0_1 t0_2 t1_0 t1_1 t1_2 t1_3 t1_4 t1_5 t1_6 t2_0 t3_0 t4_0 t5_0 t6_0 t6_1 t6_2 t6_3 t6_4 t6_5 t6_6 t6_7 t6_8 t6_9 t6_10 t7_0 t8_0 t9_0 t10_0 t11_0 t12_0 t12_1 t12_2 t12_3 t12_4 t12_5 t12_6 t12_7 t12_8 t12_9 t12_10 t13_0 t14_0 t15_0 t16_0 t17_0 t18_0).2.2.2.2.2.2.2.2.2.2.1 := by
  unfold F_NM_toWhole
  rw [if_neg h2]
  obtain ⟨hw, hb⟩ := hb
  subst hw
  obtain ⟨u, s, hE, hs⟩ := y_exx hk hf
  obtain ⟨d, hd⟩ := yDt_ex (u / 10 ^ s)
  have ex := V_mex (x2 := x2) (x3 := F_NM_bitsOf x2 x3 t0_0 t0_1 t0_2 t18_0) (x4 := 0) (N5 := 4100) (t0_0 := t0_0) (t0_1 := t0_1) (t0_2 := t0_2) (t1_0 := t12_0) (t1_1 := t12_1) (t1_2 := t12_2) (t1_3 := t12_3) (t1_4 := t12_4) (t1_5 := t12_5) (t1_6 := t12_6) (t1_7 := t12_7) (t1_8 := t12_8) (t1_9 := t12_9) (t1_10 := t12_10) (t2_0 := t13_0) (t3_0 := t14_0) (t4_0 := t15_0) (t5_0 := t16_0) (t6_0 := t17_0) (t7_0 := t2_0) (pl := 0) (c := 0) hk hb hf rfl (by decide) rfl hE hs y_rk0.symm hd rfl
  obtain ⟨d1, f1, f2, f3, f4, _⟩ := y_fx0 hd
  rw [f1] at ex
  have ev : yFW P T l0 (yu (F_NM_bitsOf x2 x3 t0_0 t0_1 t0_2 t18_0)) = some (yNv (ySx P T (yu (F_NM_bitsOf x2 x3 t0_0 t0_1 t0_2 t18_0)) = 1) (yLV d1 0)) := by
    unfold yFW yFzt
    rw [if_neg hf, f4, y_eqD hE]
    rfl
  rw [ev]
  revert ex
  generalize hp : F_NM_exact x2 (F_NM_bitsOf x2 x3 t0_0 t0_1 t0_2 t18_0) 0 4100 t0_0 t0_1 t0_2 t12_0 t12_1 t12_2 t12_3 t12_4 t12_5 t12_6 t12_7 t12_8 t12_9 t12_10 t13_0 t14_0 t15_0 t16_0 t17_0 t2_0 = p
  intro ex
  unfold F_NM_toWhole_c147
  have rd := V_wrd (x2 := x4) (x3 := 10) (t0_0 := t1_0) (t0_1 := t1_1) (t0_2 := p.1) (t0_3 := t1_3) (t0_4 := t1_4) (t0_5 := t1_5) (t0_6 := t1_6) (t4_0 := t5_0) f2 f3 rfl (by omega) ex.2.2 ex.1 hx hr rfl
  generalize F_WR_read x4 10 t1_0 t1_1 p.1 t1_3 t1_4 t1_5 t1_6 p.2.2.2.2.2.2.2.2.2.2.2.2.2.2.2.2.2 t3_0 t4_0 t5_0 = s at rd ⊢
  unfold F_NM_toWhole_c168
  rcases rd with ⟨a, b, g⟩ | ⟨a, b, g⟩
  · rw [if_neg (y_le0 b)]
    exact Or.inr ⟨Or.inr ⟨_, rfl, by rw [yNv_abs, ← y_65k2]; exact a⟩, rfl, ⟨_, g, fun _ _ => rfl⟩⟩
  · rw [if_pos (by rw [b]; decide)]
    exact Or.inl ⟨_, rfl, by rw [yNv_abs, ← y_65k2]; exact a, rfl, ⟨_, g, fun _ _ => rfl⟩⟩
theorem y_tz {v s : Int} : sTz (v, s) = yNv (v < 0) (v.natAbs * 10 ^ (-s).toNat / 10 ^ s.toNat) := by
  have p : 0 < 10 ^ s.toNat := Nat.pow_pos (by decide)
  have p2 : 0 < 10 ^ (-s).toNat := Nat.pow_pos (by decide)
  have e : ((10 : Int) ^ s.toNat) = ((10 ^ s.toNat : Nat) : Int) := by rw [Int.natCast_pow]; rfl
  have e2 : ((10 : Int) ^ (-s).toNat) = ((10 ^ (-s).toNat : Nat) : Int) := by rw [Int.natCast_pow]; rfl
  unfold sTz
  show (v * 10 ^ (-s).toNat).tdiv (10 ^ s.toNat) = _
  rw [e, e2]
  have p2i : (0 : Int) < ((10 ^ (-s).toNat : Nat) : Int) := by omega
  symm
  apply v_tdS p
  · rw [yNv_abs, Int.natAbs_mul]
    rfl
  · intro h
    unfold yNv
    rw [if_neg (by
      intro q
      have := Int.mul_neg_of_neg_of_pos q p2i
      omega)]
    exact Int.natCast_nonneg _
  · intro h
    unfold yNv
    split
    · exact Int.neg_nonpos_of_nonneg (Int.natCast_nonneg _)
    · have : v = 0 ∨ 0 < v := by omega
      rcases this with z | z
      · rw [z]
        show ((0 * _ / _ : Nat) : Int) ≤ 0
        rw [Nat.zero_mul, Nat.zero_div]
        decide
      · have := Int.mul_pos z p2i
        omega
theorem V_tw47 {x2 : Int32} {x3 : Int32} {x4 : Int32} {t0_0 : Int32} {t0_1 : Int32} {t0_2 : Int32} {t1_0 : Int32} {t1_1 : Int32} {t1_2 : Int32} {t1_3 : Int32} {t1_4 : Int32} {t1_5 : Int32} {t1_6 : Int32} {t2_0 : (Nat → Int32)} {t3_0 : (Nat → Int32)} {t4_0 : (Nat → Int32)} {t5_0 : (Nat → Int32)} {t6_0 : Int32} {t6_1 : Int32} {t6_2 : Int32} {t6_3 : Int64} {t6_4 : Int32} {t6_5 : Int32} {t6_6 : Int32} {t6_7 : Int32} {t6_8 : Int32} {t6_9 : Int32} {t6_10 : Int32} {t7_0 : (Nat → Int32)} {t8_0 : (Nat → Int32)} {t9_0 : (Nat → Int32)} {t10_0 : (Nat → Int32)} {t11_0 : (Nat → Int32)} {t12_0 : Int32} {t12_1 : Int32} {t12_2 : Int32} {t12_3 : Int32} {t12_4 : Int64} {t12_5 : Int32} {t12_6 : Int32} {t12_7 : Int64} {t12_8 : Int32} {t12_9 : Int64} {t12_10 : Int32} {t13_0 : (Nat → Int32)} {t14_0 : (Nat → Int32)} {t15_0 : (Nat → Int32)} {t16_0 : (Nat → Int32)} {t17_0 : (Nat → Int32)} {t18_0 : (Nat → Int64)} {W : Nat → Int} {D : Nat → Int × Int} (h3 : yReg x3) (hz : (D x3.toNatClampNeg).1 = 0 ∨ -1300 ≤ (D x3.toNatClampNeg).2) (hr : wRv t3_0 t4_0 W) (hD : dRv t7_0 t8_0 t9_0 t10_0 D) (hx : yReg x4) : wAn x4 W (some (sTz (D x3.toNatClampNeg))) (F_NM_toWhole_J47 x2 x3 x4 t0_0 t0_1 t0_2 t1_0 t1_1 t1_2 t1_3 t1_4 t1_5 t1_6 t2_0 t3_0 t4_0 t5_0 t6_0 t6_1 t6_2 t6_3 t6_4 t6_5 t6_6 t6_7 t6_8 t6_9 t6_10 t7_0 t8_0 t9_0 t10_0 t11_0 t12_0 t12_1 t12_2 t12_3 t12_4 t12_5 t12_6 t12_7 t12_8 t12_9 t12_10 t13_0 t14_0 t15_0 t16_0 t17_0 t18_0).1 (F_NM_toWhole_J47 x2 x3 x4 t0_0 t0_1 t0_2 t1_0 t1_1 t1_2 t1_3 t1_4 t1_5 t1_6 t2_0 t3_0 t4_0 t5_0 t6_0 t6_1 t6_2 t6_3 t6_4 t6_5 t6_6 t6_7 t6_8 t6_9 t6_10 t7_0 t8_0 t9_0 t10_0 t11_0 t12_0 t12_1 t12_2 t12_3 t12_4 t12_5 t12_6 t12_7 t12_8 t12_9 t12_10 t13_0 t14_0 t15_0 t16_0 t17_0 t18_0).2.2.2.2.2.2.2.2.2.1 (F_NM_toWhole_J47 x2 x3 x4 t0_0 t0_1 t0_2 t1_0 t1_1 t1_2 t1_3 t1_4 t1_5 t1_6 t2_0 t3_0 t4_0 t5_0 t6_0 t6_1 t6_2 t6_3 t6_4 t6_5 t6_6 t6_7 t6_8 t6_9 t6_10 t7_0 t8_0 t9_0 t10_0 t11_0 t12_0 t12_1 t12_2 t12_3 t12_4 t12_5 t12_6 t12_7 t12_8 t12_9 t12_10 t13_0 t14_0 t15_0 t16_0 t17_0 t18_0).2.2.2.2.2.2.2.2.2.2.1 := by
  have ix : x3.toNatClampNeg < 10 := by
    show x3.toInt.toNat < 10
    have := h3.1
    have := h3.2
    omega
  unfold F_NM_toWhole_J47
  have hc : vG (D x3.toNatClampNeg).1 (t8_0 x3.toNatClampNeg).toNatClampNeg := (hD.2 _ ix).2.2.1
  have lc : (t8_0 x3.toNatClampNeg).toNatClampNeg ≤ 1000 := by
    have := (hD.2 _ ix).1
    show (t8_0 x3.toNatClampNeg).toInt.toNat ≤ 1000
    omega
  have ls : -10000 ≤ (D x3.toNatClampNeg).2 ∧ (D x3.toNatClampNeg).2 ≤ 10000 := (hD.2 _ ix).2.2.2.2.2
  have w := V_DRwr (x2 := x3) (x3 := 1) (t0_0 := t6_0) (t0_1 := t6_1) (t0_2 := t6_2) (t0_3 := t6_3) (t0_4 := t6_4) (t0_5 := t6_5) (t0_6 := t6_6) (t0_7 := t6_7) (t0_8 := t6_8) (t0_9 := t6_9) (t0_10 := t6_10) (t5_0 := t11_0) h3 hD hc (by decide)
  revert w
  generalize F_DR_written x3 1 t6_0 t6_1 t6_2 t6_3 t6_4 t6_5 t6_6 t6_7 t6_8 t6_9 t6_10 t7_0 t8_0 t9_0 t10_0 t11_0 = p
  intro w
  generalize (t8_0 x3.toNatClampNeg).toNatClampNeg = c at hc lc w
  have len := yDtx_len (st := 1) (v := (D x3.toNatClampNeg).1) lc ls.1 ls.2
  obtain ⟨A, a1, a2, a3, a4, a5, a6⟩ := y_pln (s := (D x3.toNatClampNeg).2) hc
  have tx : yDtx 1 (D x3.toNatClampNeg).1 (D x3.toNatClampNeg).2 c = (yMin ((D x3.toNatClampNeg).1 < 0) ++ yDz (D x3.toNatClampNeg).1.natAbs ((A : Int) - 1 + (D x3.toNatClampNeg).2) A) ++ yTail (D x3.toNatClampNeg).1.natAbs (D x3.toNatClampNeg).2 (max (D x3.toNatClampNeg).2 0).toNat 0 := by
    unfold yDtx
    rw [if_pos (Or.inl rfl), a1, List.append_assoc]
  have ev : sTz (D x3.toNatClampNeg) = yNv ((D x3.toNatClampNeg).1 < 0) (yLV (yDz (D x3.toNatClampNeg).1.natAbs ((A : Int) - 1 + (D x3.toNatClampNeg).2) A) 0) := by
    rw [y_plV a5 a6]
    exact y_tz
  rw [ev]
  have dA : (yDz (D x3.toNatClampNeg).1.natAbs ((A : Int) - 1 + (D x3.toNatClampNeg).2) A).length = A := yDz_len
  have dD : yDi (yDz (D x3.toNatClampNeg).1.natAbs ((A : Int) - 1 + (D x3.toNatClampNeg).2) A) := yDz_di
  have tl : yTail (D x3.toNatClampNeg).1.natAbs (D x3.toNatClampNeg).2 (max (D x3.toNatClampNeg).2 0).toNat 0 = [] ∨ ∃ r, yTail (D x3.toNatClampNeg).1.natAbs (D x3.toNatClampNeg).2 (max (D x3.toNatClampNeg).2 0).toNat 0 = 46 :: r := by
    unfold yTail
    by_cases q : 0 < (max (D x3.toNatClampNeg).2 0).toNat
    · rw [if_pos (Or.inl q)]
      exact Or.inr ⟨_, rfl⟩
    · have : (max (D x3.toNatClampNeg).2 0).toNat = 0 := by omega
      rw [this, if_neg (by decide)]
      exact Or.inl rfl
  have hA : A ≤ 2400 := by
    by_cases q : (D x3.toNatClampNeg).1 = 0
    · have := a4 q
      omega
    · have := a3 q
      rcases hz with z | z
      · exact absurd z q
      · omega
  clear a1 a3 a4 a5 a6 ev hz
  generalize yDtx 1 (D x3.toNatClampNeg).1 (D x3.toNatClampNeg).2 c = t at w tx len
  revert tx dA dD tl
  generalize yDz (D x3.toNatClampNeg).1.natAbs ((A : Int) - 1 + (D x3.toNatClampNeg).2) A = d
  generalize yTail (D x3.toNatClampNeg).1.natAbs (D x3.toNatClampNeg).2 (max (D x3.toNatClampNeg).2 0).toNat 0 = r
  intro dA dD tl tx
  have tlen : t.length = (yMin ((D x3.toNatClampNeg).1 < 0) ++ d).length + r.length := by rw [tx, List.length_append]
  have alen : (yMin ((D x3.toNatClampNeg).1 < 0) ++ d).length ≤ 2401 := by
    rw [List.length_append, dA]
    have := yMin_l (a := (D x3.toNatClampNeg).1 < 0)
    omega
  have J : ∀ (x : Int32) (L : Nat), x.toInt = (L : Int) → L ≤ 4100 → L ≤ t.length → (L = t.length ∨ L = 4100) → wAn x4 W (some (yNv ((D x3.toNatClampNeg).1 < 0) (yLV d 0))) (F_NM_toWhole_J81 x2 x3 x4 t0_0 t0_1 t0_2 t1_0 t1_1 t1_2 t1_3 t1_4 t1_5 t1_6 t2_0 t3_0 t4_0 t5_0 t6_0 t6_1 t6_2 t6_3 t6_4 t6_5 t6_6 t6_7 t6_8 t6_9 t6_10 t7_0 t8_0 t9_0 t10_0 t11_0 t12_0 t12_1 t12_2 t12_3 t12_4 t12_5 t12_6 t12_7 t12_8 t12_9 t12_10 t13_0 t14_0 t15_0 t16_0 t17_0 t18_0 p p.2.1 p.2.2.1 p.2.2.2.1 p.2.2.2.2.1 p.2.2.2.2.2.1 p.2.2.2.2.2.2.1 p.2.2.2.2.2.2.2.1 p.2.2.2.2.2.2.2.2.1 p.2.2.2.2.2.2.2.2.2.1 p.2.2.2.2.2.2.2.2.2.2.1 p.2.2.2.2.2.2.2.2.2.2.2.1 p.2.2.2.2.2.2.2.2.2.2.2.2 x).1 (F_NM_toWhole_J81 x2 x3 x4 t0_0 t0_1 t0_2 t1_0 t1_1 t1_2 t1_3 t1_4 t1_5 t1_6 t2_0 t3_0 t4_0 t5_0 t6_0 t6_1 t6_2 t6_3 t6_4 t6_5 t6_6 t6_7 t6_8 t6_9 t6_10 t7_0 t8_0 t9_0 t10_0 t11_0 t12_0 t12_1 t12_2 t12_3 t12_4 t12_5 t12_6 t12_7 t12_8 t12_9 t12_10 t13_0 t14_0 t15_0 t16_0 t17_0 t18_0 p p.2.1 p.2.2.1 p.2.2.2.1 p.2.2.2.2.1 p.2.2.2.2.2.1 p.2.2.2.2.2.2.1 p.2.2.2.2.2.2.2.1 p.2.2.2.2.2.2.2.2.1 p.2.2.2.2.2.2.2.2.2.1 p.2.2.2.2.2.2.2.2.2.2.1 p.2.2.2.2.2.2.2.2.2.2.2.1 p.2.2.2.2.2.2.2.2.2.2.2.2 x).2.2.2.2.2.2.2.2.2.1 (F_NM_toWhole_J81 x2 x3 x4 t0_0 t0_1 t0_2 t1_0 t1_1 t1_2 t1_3 t1_4 t1_5 t1_6 t2_0 t3_0 t4_0 t5_0 t6_0 t6_1 t6_2 t6_3 t6_4 t6_5 t6_6 t6_7 t6_8 t6_9 t6_10 t7_0 t8_0 t9_0 t10_0 t11_0 t12_0 t12_1 t12_2 t12_3 t12_4 t12_5 t12_6 t12_7 t12_8 t12_9 t12_10 t13_0 t14_0 t15_0 t16_0 t17_0 t18_0 p p.2.1 p.2.2.1 p.2.2.2.1 p.2.2.2.2.1 p.2.2.2.2.2.1 p.2.2.2.2.2.2.1 p.2.2.2.2.2.2.2.1 p.2.2.2.2.2.2.2.2.1 p.2.2.2.2.2.2.2.2.2.1 p.2.2.2.2.2.2.2.2.2.2.1 p.2.2.2.2.2.2.2.2.2.2.2.1 p.2.2.2.2.2.2.2.2.2.2.2.2 x).2.2.2.2.2.2.2.2.2.2.1 := by
    intro x L hxL hL4 hLt hL5
    unfold F_NM_toWhole_J81
    have ld := y_ldG (N1 := 12200) (r := t2_0) hxL hL4 (by show (L : Int) ≤ 12200; omega) (by decide) (fun i hi => yRt_tr w i (by omega))
    generalize F_NM_load 12200 x 4100 p.2.2.2.2.2.2.2.2.2.2.2.2 t2_0 = q at ld ⊢
    unfold F_NM_toWhole_c88
    have e0 : (0 : Int32).toInt = 0 := rfl
    refine V_twL (a := yMin ((D x3.toNatClampNeg).1 < 0) ++ d) (t := t) (L := L) dD (by omega) rfl hL4 ld.2 (fun i hi => by rw [tx]; exact yBr_a hi) (by rw [ld.1]; exact hxL) (by omega) ?_ hx hr ((4100 - (0 : Int32).toInt).toNat + 1) 0 0 rfl (Nat.zero_le _) (by omega)
    rcases tl with z | ⟨r', z⟩
    · left
      have : r.length = 0 := by rw [z]; rfl
      omega
    · right
      rw [tx, z]
      exact yBr_b (i := 0)
  unfold F_NM_toWhole_c53
  have e41 : (4100 : Int32).toInt = 4100 := rfl
  by_cases g : p.1 ≤ 4100
  · rw [if_pos g]
    have g' := q_leI g
    exact J p.1 t.length w.1 (by have := w.1; omega) (Nat.le_refl _) (Or.inl rfl)
  · rw [if_neg g]
    have g' := q_nleI g
    exact J 4100 4100 rfl (Nat.le_refl _) (by have := w.1; omega) (Or.inr rfl)
theorem y_big13 {n k : Nat} (hn : 1 ≤ n) (hk : 1300 < k) : 2 ^ 2048 ≤ n * 10 ^ k := by
  have a : (2 : Nat) ^ 2048 ≤ 10 ^ 1000 := y_2k1000
  have b : (10 : Nat) ^ 1000 ≤ 10 ^ k := Nat.pow_le_pow_right (by decide) (by omega)
  exact Nat.le_trans a (Nat.le_trans b (Nat.le_mul_of_pos_left _ hn))
theorem V_tw1 {x2 : Int32} {x3 : Int32} {x4 : Int32} {t0_0 : Int32} {t0_1 : Int32} {t0_2 : Int32} {t1_0 : Int32} {t1_1 : Int32} {t1_2 : Int32} {t1_3 : Int32} {t1_4 : Int32} {t1_5 : Int32} {t1_6 : Int32} {t2_0 : (Nat → Int32)} {t3_0 : (Nat → Int32)} {t4_0 : (Nat → Int32)} {t5_0 : (Nat → Int32)} {t6_0 : Int32} {t6_1 : Int32} {t6_2 : Int32} {t6_3 : Int64} {t6_4 : Int32} {t6_5 : Int32} {t6_6 : Int32} {t6_7 : Int32} {t6_8 : Int32} {t6_9 : Int32} {t6_10 : Int32} {t7_0 : (Nat → Int32)} {t8_0 : (Nat → Int32)} {t9_0 : (Nat → Int32)} {t10_0 : (Nat → Int32)} {t11_0 : (Nat → Int32)} {t12_0 : Int32} {t12_1 : Int32} {t12_2 : Int32} {t12_3 : Int32} {t12_4 : Int64} {t12_5 : Int32} {t12_6 : Int32} {t12_7 : Int64} {t12_8 : Int32} {t12_9 : Int64} {t12_10 : Int32} {t13_0 : (Nat → Int32)} {t14_0 : (Nat → Int32)} {t15_0 : (Nat → Int32)} {t16_0 : (Nat → Int32)} {t17_0 : (Nat → Int32)} {t18_0 : (Nat → Int64)} {W : Nat → Int} {D : Nat → Int × Int} (h2 : x2 = 1) (h3 : yReg x3) (hr : wRv t3_0 t4_0 W) (hD : dRv t7_0 t8_0 t9_0 t10_0 D) (hx : yReg x4) : wAn x4 W (some (sTz (D x3.toNatClampNeg))) (F_NM_toWhole x2 x3 x4 t0_0 t0_1 t0_2 t1_0 t1_1 t1_2 t1_3 t1_4 t1_5 t1_6 t2_0 t3_0 t4_0 t5_0 t6_0 t6_1 t6_2 t6_3 t6_4 t6_5 t6_6 t6_7 t6_8 t6_9 t6_10 t7_0 t8_0 t9_0 t10_0 t11_0 t12_0 t12_1 t12_2 t12_3 t12_4 t12_5 t12_6 t12_7 t12_8 t12_9 t12_10 t13_0 t14_0 t15_0 t16_0 t17_0 t18_0).1 (F_NM_toWhole x2 x3 x4 t0_0 t0_1 t0_2 t1_0 t1_1 t1_2 t1_3 t1_4 t1_5 t1_6 t2_0 t3_0 t4_0 t5_0 t6_0 t6_1 t6_2 t6_3 t6_4 t6_5 t6_6 t6_7 t6_8 t6_9 t6_10 t7_0 t8_0 t9_0 t10_0 t11_0 t12_0 t12_1 t12_2 t12_3 t12_4 t12_5 t12_6 t12_7 t12_8 t12_9 t12_10 t13_0 t14_0 t15_0 t16_0 t17_0 t18_0).2.2.2.2.2.2.2.2.2.1 (F_NM_toWhole x2 x3 x4 t0_0 t0_1 t0_2 t1_0 t1_1 t1_2 t1_3 t1_4 t1_5 t1_6 t2_0 t3_0 t4_0 t5_0 t6_0 t6_1 t6_2 t6_3 t6_4 t6_5 t6_6 t6_7 t6_8 t6_9 t6_10 t7_0 t8_0 t9_0 t10_0 t11_0 t12_0 t12_1 t12_2 t12_3 t12_4 t12_5 t12_6 t12_7 t12_8 t12_9 t12_10 t13_0 t14_0 t15_0 t16_0 t17_0 t18_0).2.2.2.2.2.2.2.2.2.2.1 := by
  have ix : x3.toNatClampNeg < 10 := by
    show x3.toInt.toNat < 10
    have := h3.1
    have := h3.2
    omega
  have hs : (t10_0 x3.toNatClampNeg).toInt = (D x3.toNatClampNeg).2 := (hD.2 _ ix).2.2.2.2.1
  have ls : -10000 ≤ (D x3.toNatClampNeg).2 ∧ (D x3.toNatClampNeg).2 ≤ 10000 := (hD.2 _ ix).2.2.2.2.2
  unfold F_NM_toWhole
  rw [if_pos h2]
  have sc : (-((t10_0 x3.toNatClampNeg).toInt64)).toInt = -(D x3.toNatClampNeg).2 := by
    exact n_negL (by rw [Int32.toInt_toInt64]; exact hs) (by omega)
  by_cases g : (lg_cmp (-((t10_0 x3.toNatClampNeg).toInt64)) 1300) ≤ 0
  · rw [if_pos g]
    have g' := q_k5 g
    have e13 : (1300 : Int64).toInt = 1300 := rfl
    exact V_tw47 h3 (Or.inr (by omega)) hr hD hx
  · rw [if_neg g]
    have g' := q_k6 g
    have e13 : (1300 : Int64).toInt = 1300 := rfl
    rw [d_iz hD ⟨h3.1, h3.2⟩]
    by_cases z : (D x3.toNatClampNeg).1 = 0
    · rw [if_pos z, if_neg (show ¬ (1 : Int32) = 0 by decide)]
      exact V_tw47 h3 (Or.inl z) hr hD hx
    · rw [if_neg z, if_pos rfl]
      refine Or.inr ⟨Or.inr ⟨_, rfl, ?_⟩, rfl, ⟨_, hr, fun _ _ => rfl⟩⟩
      have := y_tz (v := (D x3.toNatClampNeg).1) (s := (D x3.toNatClampNeg).2)
      rw [show ((D x3.toNatClampNeg).1, (D x3.toNatClampNeg).2) = D x3.toNatClampNeg from rfl] at this
      rw [this, yNv_abs, show (D x3.toNatClampNeg).2.toNat = 0 by omega, Nat.pow_zero, Nat.div_one]
      exact y_big13 (by omega) (by omega)
