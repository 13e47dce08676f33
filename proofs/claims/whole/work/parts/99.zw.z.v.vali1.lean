/-! values, for whole: numbers of the reference's directives, the method -/
theorem Z_h40 {t0_0 t0_1 t0_2 t0_3 t0_4 t0_5 t0_6 t0_7 t0_8 t0_9 t0_10 t0_11 t0_12 t0_13 t0_14 t0_15 t0_16 t0_17 t0_18 t0_19 t0_20 t0_21 : Int32} : F_VR_has 40 t0_0 t0_1 t0_2 t0_3 t0_4 t0_5 t0_6 t0_7 t0_8 t0_9 t0_10 t0_11 t0_12 t0_13 t0_14 t0_15 t0_16 t0_17 t0_18 t0_19 t0_20 t0_21 = if t0_9 &&& 32 = 0 then 0 else 1 := Z_hasR (k := 32) rfl
theorem Z_n161 {x2 : Int32} {t0_0 : Int32} {t0_1 : Int32} {t0_2 : Int32} {t0_3 : Int32} {t0_4 : Int32} {t0_5 : Int32} {t0_6 : Int32} {t0_7 : Int32} {t0_8 : Int32} {t0_9 : Int32} {t0_10 : Int32} {t0_11 : Int32} {t0_12 : Int32} {t0_13 : Int32} {t0_14 : Int32} {t0_15 : Int32} {t0_16 : Int32} {t0_17 : Int32} {t0_18 : Int32} {t0_19 : Int32} {t0_20 : Int32} {t0_21 : Int32} {t1_0 : (Nat → Int32)} {t2_0 : (Nat → Int64)} {t3_0 : (Nat → Int32)} {t4_0 : (Nat → Int32)} {j42 : Int64} {a46 : Int32} {lx53 : Int32} {lx67 : Int32} {lx81 : Int32} {lx82 : (Nat → Int32)} {lx95 : Int32} {lx96 : (Nat → Int32)} {p dg s : Nat} {v : Int64} (hv : t2_0 t0_14.toNatClampNeg = v) (hj : v = j42) (hZ : ∀ i, i < 9 → 0 ≤ (t1_0 i).toInt ∧ (t1_0 i).toInt ≤ 64) (h14 : 0 ≤ t0_14.toInt ∧ t0_14.toInt ≤ 8) (hx : x2 = 111 ∨ x2 = 120 ∨ x2 = 100 ∨ x2 = 102 ∨ x2 = 101 ∨ x2 = 103) (h64 : x2 = 111 ∨ x2 = 120 → t1_0 t0_14.toNatClampNeg = 64) (hs : x2 = 102 ∨ x2 = 101 ∨ x2 = 103 → (t1_0 t0_14.toNatClampNeg).toInt = (s : Int)) (hs2 : s ≤ 40) (hp : (t0_12.toInt < 0 ∧ p = 6) ∨ t0_12.toInt = (p : Int)) (hp2 : p ≤ 9999) (hd : yDt v.toInt.natAbs dg) (h53 : (lx53 = 0 ∧ (x2 = 111 ∨ x2 = 120)) ∨ (lx53 = 1 ∧ ¬ (x2 = 111 ∨ x2 = 120))) (h67 : lx67 = if v.toInt < 0 ∧ ¬ (x2 = 111 ∨ x2 = 120) then 1 else 0) {pre : List Nat} (hl : yRt lx95 lx96 pre) (hl2 : pre.length ≤ 100) : ∃ u, (((x2 = 111 ∨ x2 = 120) ∧ zBas (if x2 = 111 then 8 else 16) (yu j42) u) ∨ (x2 = 100 ∧ zTf j42.toInt.natAbs 0 0 (t0_9 &&& 16) (t0_9 &&& 2) u) ∨ ((x2 = 102 ∨ x2 = 101 ∨ x2 = 103) ∧ zTx x2 j42.toInt.natAbs dg s p (t0_9 &&& 16) (t0_9 &&& 2) u)) ∧ yRt (F_VR_numeric_J161 x2 t0_0 t0_1 t0_2 t0_3 t0_4 t0_5 t0_6 t0_7 t0_8 t0_9 t0_10 t0_11 t0_12 t0_13 t0_14 t0_15 t0_16 t0_17 t0_18 t0_19 t0_20 t0_21 t1_0 t2_0 t3_0 t4_0 j42 a46 lx53 lx67 lx81 lx82 lx95 lx96).1 (F_VR_numeric_J161 x2 t0_0 t0_1 t0_2 t0_3 t0_4 t0_5 t0_6 t0_7 t0_8 t0_9 t0_10 t0_11 t0_12 t0_13 t0_14 t0_15 t0_16 t0_17 t0_18 t0_19 t0_20 t0_21 t1_0 t2_0 t3_0 t4_0 j42 a46 lx53 lx67 lx81 lx82 lx95 lx96).2.2.2.2.2.1 (pre ++ u ++ (if x2 = 111 ∨ x2 = 120 then [] else zCls v.toInt t0_9)) ∧ (F_VR_numeric_J161 x2 t0_0 t0_1 t0_2 t0_3 t0_4 t0_5 t0_6 t0_7 t0_8 t0_9 t0_10 t0_11 t0_12 t0_13 t0_14 t0_15 t0_16 t0_17 t0_18 t0_19 t0_20 t0_21 t1_0 t2_0 t3_0 t4_0 j42 a46 lx53 lx67 lx81 lx82 lx95 lx96).2.1 = lx95 ∧ (F_VR_numeric_J161 x2 t0_0 t0_1 t0_2 t0_3 t0_4 t0_5 t0_6 t0_7 t0_8 t0_9 t0_10 t0_11 t0_12 t0_13 t0_14 t0_15 t0_16 t0_17 t0_18 t0_19 t0_20 t0_21 t1_0 t2_0 t3_0 t4_0 j42 a46 lx53 lx67 lx81 lx82 lx95 lx96).2.2.1 = a46 := by
  subst hj
  unfold F_VR_numeric_J161
  have cl : ¬ (x2 = 111 ∨ x2 = 120) → (lx67 = 0 ∧ zCls v.toInt t0_9 = []) ∨ (lx67 = 1 ∧ zCls v.toInt t0_9 = if t0_9 &&& 32 = 0 then [] else [41]) := by
    intro nx
    rw [h67]
    unfold zCls
    by_cases z : v.toInt < 0
    · rw [if_pos ⟨z, nx⟩, if_pos z]
      exact Or.inr ⟨rfl, rfl⟩
    · rw [if_neg (fun w => z w.1), if_neg z]
      exact Or.inl ⟨rfl, rfl⟩
  by_cases c : x2 = 100
  · rw [if_pos c]
    have nx : ¬ (x2 = 111 ∨ x2 = 120) := by rw [c]; decide
    rw [if_neg nx]
    have sp := Z_spr (x2 := F_VR_size64 v) (x3 := 10) (t0_0 := t0_0) (t0_1 := t0_1) (t0_2 := t0_2) (t0_3 := t0_3) (t0_4 := t0_4) (t0_5 := t0_5) (t0_6 := t0_6) (t0_7 := t0_7) (t0_8 := t0_8) (t0_9 := t0_9) (t0_10 := t0_10) (t0_11 := t0_11) (t0_12 := t0_12) (t0_13 := t0_13) (t0_14 := t0_14) (t0_15 := t0_15) (t0_16 := t0_16) (t0_17 := lx95) (t0_18 := lx95) (t0_19 := a46) (t0_20 := t0_20) (t0_21 := t0_21) (t1_0 := t4_0) (b := 10) rfl (by decide)
    rw [Z_size] at sp
    revert sp
    generalize F_VR_spread (F_VR_size64 v) 10 t0_0 t0_1 t0_2 t0_3 t0_4 t0_5 t0_6 t0_7 t0_8 t0_9 t0_10 t0_11 t0_12 t0_13 t0_14 t0_15 t0_16 lx95 lx95 a46 t0_20 t0_21 t4_0 = q
    intro sp
    obtain ⟨m, s1, s2, s3, s4, s5⟩ := sp
    have fp : zFp q.1 q.2.1 q.2.2 v.toInt.natAbs m ((m : Int) - ((0 : Nat) : Int)) := ⟨s1, by rw [s2]; omega, by omega, by omega, s5, s4.2.1⟩
    unfold F_VR_numeric_c182
    have hl1 := hl.1
    have bd := (T_VR_plain (x2 := 0) (t0_0 := t0_0) (t0_1 := t0_1) (t0_2 := t0_2) (t0_3 := t0_3) (t0_4 := t0_4) (t0_5 := t0_5) (t0_6 := t0_6) (t0_7 := t0_7) (t0_8 := t0_8) (t0_9 := t0_9) (t0_10 := t0_10) (t0_11 := t0_11) (t0_12 := t0_12) (t0_13 := t0_13) (t0_14 := t0_14) (t0_15 := t0_15) (t0_16 := t0_16) (t0_17 := lx95) (t0_18 := lx95) (t0_19 := a46) (t0_20 := q.1) (t0_21 := q.2.1) (t1_0 := lx96) (t2_0 := q.2.2) (by omega) (by omega) (by omega) (by decide)).2
    have w := Z_plain (x2 := 0) (t0_0 := t0_0) (t0_1 := t0_1) (t0_2 := t0_2) (t0_3 := t0_3) (t0_4 := t0_4) (t0_5 := t0_5) (t0_6 := t0_6) (t0_7 := t0_7) (t0_8 := t0_8) (t0_9 := t0_9) (t0_10 := t0_10) (t0_11 := t0_11) (t0_12 := t0_12) (t0_13 := t0_13) (t0_14 := t0_14) (t0_15 := t0_15) (t0_16 := t0_16) (t0_17 := lx95) (t0_18 := lx95) (t0_19 := a46) (t0_20 := q.1) (t0_21 := q.2.1) (t1_0 := lx96) (t2_0 := q.2.2) (bh := 0) fp (by omega) rfl (by omega) hl (by omega)
    have tf := Z_plT (s := 0) (cm := t0_9 &&& 16) (ap := t0_9 &&& 2) s4
    revert w tf bd
    generalize (yPlA v.toInt.natAbs ((m : Int) - ((m : Int) - ((0 : Nat) : Int))) (t0_9 &&& 16) (max ((m : Int) - ((0 : Nat) : Int)) 1).toNat ++ yTail v.toInt.natAbs ((m : Int) - ((m : Int) - ((0 : Nat) : Int))) 0 (t0_9 &&& 2)) = u
    generalize F_VR_plain 0 t0_0 t0_1 t0_2 t0_3 t0_4 t0_5 t0_6 t0_7 t0_8 t0_9 t0_10 t0_11 t0_12 t0_13 t0_14 t0_15 t0_16 lx95 lx95 a46 q.1 q.2.1 lx96 q.2.2 = g
    intro bd w tf
    refine ⟨u, Or.inr (Or.inl ⟨c, tf⟩), ?_⟩
    have gl : (pre ++ u).length < 1000000 := by
      have w1 := w.1
      have b2 := bd.2
      have e0 : (0 : Int32).toInt = 0 := rfl
      omega
    unfold F_VR_numeric_c187
    rcases cl nx with ⟨k1, k2⟩ | ⟨k1, k2⟩
    · rw [if_pos k1, k2, List.append_nil]
      exact ⟨w, rfl, rfl⟩
    · rw [if_neg (by rw [k1]; decide), Z_h40, k2]
      by_cases e : t0_9 &&& 32 = 0
      · rw [if_pos e, if_pos (rfl : (0 : Int32) = 0), if_pos e, List.append_nil]
        exact ⟨w, rfl, rfl⟩
      · rw [if_neg e, if_neg (show ¬ (1 : Int32) = 0 by decide), if_neg e]
        have w2 := Z_put (x2 := 41) (v := 41) (t0_0 := t0_0) (t0_1 := t0_1) (t0_2 := t0_2) (t0_3 := t0_3) (t0_4 := t0_4) (t0_5 := t0_5) (t0_6 := t0_6) (t0_7 := t0_7) (t0_8 := t0_8) (t0_9 := t0_9) (t0_10 := t0_10) (t0_11 := t0_11) (t0_12 := t0_12) (t0_13 := t0_13) (t0_14 := t0_14) (t0_15 := t0_15) (t0_16 := t0_16) (t0_17 := g.1) (t0_18 := lx95) (t0_19 := a46) (t0_20 := q.1) (t0_21 := q.2.1) w gl rfl
        revert w2
        generalize F_VR_put 41 t0_0 t0_1 t0_2 t0_3 t0_4 t0_5 t0_6 t0_7 t0_8 t0_9 t0_10 t0_11 t0_12 t0_13 t0_14 t0_15 t0_16 g.1 lx95 a46 q.1 q.2.1 g.2 = g2
        intro w2
        unfold F_VR_numeric_c330_15
        exact ⟨w2, rfl, rfl⟩
  · rw [if_neg c]
    rcases h53 with ⟨l1, xo⟩ | ⟨l1, nx⟩
    · rw [if_pos l1, if_pos (h64 xo), if_pos xo]
      unfold F_VR_numeric_J229
      have J : ∀ (b : Int32) (bn : Nat), b.toInt = (bn : Int) → (8 ≤ bn ∧ bn ≤ 16) → bn = (if x2 = 111 then 8 else 16) → ∃ u, (((x2 = 111 ∨ x2 = 120) ∧ zBas (if x2 = 111 then 8 else 16) (yu v) u) ∨ (x2 = 100 ∧ zTf v.toInt.natAbs 0 0 (t0_9 &&& 16) (t0_9 &&& 2) u) ∨ ((x2 = 102 ∨ x2 = 101 ∨ x2 = 103) ∧ zTx x2 v.toInt.natAbs dg s p (t0_9 &&& 16) (t0_9 &&& 2) u)) ∧ yRt (F_VR_numeric_J242 x2 t0_0 t0_1 t0_2 t0_3 t0_4 t0_5 t0_6 t0_7 t0_8 t0_9 t0_10 t0_11 t0_12 t0_13 t0_14 t0_15 t0_16 t0_17 t0_18 t0_19 t0_20 t0_21 t1_0 t2_0 t3_0 t4_0 v a46 lx53 lx67 lx81 lx82 lx95 lx96 v b).1 (F_VR_numeric_J242 x2 t0_0 t0_1 t0_2 t0_3 t0_4 t0_5 t0_6 t0_7 t0_8 t0_9 t0_10 t0_11 t0_12 t0_13 t0_14 t0_15 t0_16 t0_17 t0_18 t0_19 t0_20 t0_21 t1_0 t2_0 t3_0 t4_0 v a46 lx53 lx67 lx81 lx82 lx95 lx96 v b).2.2.2.2.2.1 (pre ++ u ++ []) ∧ (F_VR_numeric_J242 x2 t0_0 t0_1 t0_2 t0_3 t0_4 t0_5 t0_6 t0_7 t0_8 t0_9 t0_10 t0_11 t0_12 t0_13 t0_14 t0_15 t0_16 t0_17 t0_18 t0_19 t0_20 t0_21 t1_0 t2_0 t3_0 t4_0 v a46 lx53 lx67 lx81 lx82 lx95 lx96 v b).2.1 = lx95 ∧ (F_VR_numeric_J242 x2 t0_0 t0_1 t0_2 t0_3 t0_4 t0_5 t0_6 t0_7 t0_8 t0_9 t0_10 t0_11 t0_12 t0_13 t0_14 t0_15 t0_16 t0_17 t0_18 t0_19 t0_20 t0_21 t1_0 t2_0 t3_0 t4_0 v a46 lx53 lx67 lx81 lx82 lx95 lx96 v b).2.2.1 = a46 := by
        intro b bn hb hb2 hb3
        unfold F_VR_numeric_J242
        have sp := Z_spr (x2 := v) (x3 := b) (t0_0 := t0_0) (t0_1 := t0_1) (t0_2 := t0_2) (t0_3 := t0_3) (t0_4 := t0_4) (t0_5 := t0_5) (t0_6 := t0_6) (t0_7 := t0_7) (t0_8 := t0_8) (t0_9 := t0_9) (t0_10 := t0_10) (t0_11 := t0_11) (t0_12 := t0_12) (t0_13 := t0_13) (t0_14 := t0_14) (t0_15 := t0_15) (t0_16 := t0_16) (t0_17 := lx95) (t0_18 := lx95) (t0_19 := a46) (t0_20 := t0_20) (t0_21 := t0_21) (t1_0 := t4_0) hb hb2
        revert sp
        generalize F_VR_spread v b t0_0 t0_1 t0_2 t0_3 t0_4 t0_5 t0_6 t0_7 t0_8 t0_9 t0_10 t0_11 t0_12 t0_13 t0_14 t0_15 t0_16 lx95 lx95 a46 t0_20 t0_21 t4_0 = q
        intro sp
        obtain ⟨m, s1, s2, s3, s4, s5⟩ := sp
        unfold F_VR_numeric_c242
        have e0 : (0 : Int32).toInt = 0 := rfl
        have r := Z_nuLo (x2 := x2) (t0_0 := t0_0) (t0_1 := t0_1) (t0_2 := t0_2) (t0_3 := t0_3) (t0_4 := t0_4) (t0_5 := t0_5) (t0_6 := t0_6) (t0_7 := t0_7) (t0_8 := t0_8) (t0_9 := t0_9) (t0_10 := t0_10) (t0_11 := t0_11) (t0_12 := t0_12) (t0_13 := t0_13) (t0_14 := t0_14) (t0_15 := t0_15) (t0_16 := t0_16) (t0_17 := t0_17) (t0_18 := t0_18) (t0_19 := t0_19) (t0_20 := t0_20) (t0_21 := t0_21) (t1_0 := t1_0) (t2_0 := t2_0) (t3_0 := t3_0) (t4_0 := t4_0) (j42 := v) (a46 := a46) (lx53 := lx53) (lx67 := lx67) (lx81 := lx81) (lx82 := lx82) (lx95 := lx95) (lx96 := lx96) (lx178 := v) (lx190 := b) (p218 := q) (y208 := q.1) (y209 := q.2.1) (f210 := q.2.2) s1 s3 (by omega) s5 ((97 - (0 : Int32).toInt).toNat + 1) 0 lx95 lx96 0 pre rfl (Nat.zero_le _) (by omega) hl (by omega)
        refine ⟨(yLw bn (yu v) 0 m).reverse, Or.inl ⟨xo, ?_⟩, ?_⟩
        · rw [← hb3]
          exact ⟨m, s4, rfl⟩
        · rw [List.append_nil]
          exact r
      by_cases o : x2 = 111
      · have q := J 8 8 rfl (by decide) (by rw [if_pos o])
        rw [if_pos o] at q
        rw [if_pos o, if_pos o]
        exact q
      · have q := J 16 16 rfl (by decide) (by rw [if_neg o])
        rw [if_neg o] at q
        rw [if_neg o, if_neg o]
        exact q
    · rw [if_neg (show ¬ lx53 = 0 by rw [l1]; decide), if_neg nx]
      have xf : x2 = 102 ∨ x2 = 101 ∨ x2 = 103 := by
        rcases hx with z | z | z | z
        · exact absurd (Or.inl z) nx
        · exact absurd (Or.inr z) nx
        · exact absurd z c
        · exact z
      obtain ⟨u, u1, u2⟩ := Z_dec (x2 := x2) (t0_0 := t0_0) (t0_1 := t0_1) (t0_2 := t0_2) (t0_3 := t0_3) (t0_4 := t0_4) (t0_5 := t0_5) (t0_6 := t0_6) (t0_7 := t0_7) (t0_8 := t0_8) (t0_9 := t0_9) (t0_10 := t0_10) (t0_11 := t0_11) (t0_12 := t0_12) (t0_13 := t0_13) (t0_14 := t0_14) (t0_15 := t0_15) (t0_16 := t0_16) (t0_17 := lx95) (t0_18 := lx95) (t0_19 := a46) (t0_20 := t0_20) (t0_21 := t0_21) (t1_0 := t1_0) (t2_0 := t2_0) (t3_0 := lx96) (t4_0 := t4_0) (N := v.toInt.natAbs) (by rw [hv]) (hs xf) hs2 xf hp hp2 (fun _ => hd) hl (by omega)
      have hl1 := hl.1
      have bd := (T_VR_decimal_IV (x2 := x2) (t0_0 := t0_0) (t0_1 := t0_1) (t0_2 := t0_2) (t0_3 := t0_3) (t0_4 := t0_4) (t0_5 := t0_5) (t0_6 := t0_6) (t0_7 := t0_7) (t0_8 := t0_8) (t0_9 := t0_9) (t0_10 := t0_10) (t0_11 := t0_11) (t0_12 := t0_12) (t0_13 := t0_13) (t0_14 := t0_14) (t0_15 := t0_15) (t0_16 := t0_16) (t0_17 := lx95) (t0_18 := lx95) (t0_19 := a46) (t0_20 := t0_20) (t0_21 := t0_21) (t1_0 := t1_0) (t2_0 := t2_0) (t3_0 := lx96) (t4_0 := t4_0) hZ h14 (by omega) (by omega)).2
      revert u2 bd
      generalize F_VR_decimal_IV x2 t0_0 t0_1 t0_2 t0_3 t0_4 t0_5 t0_6 t0_7 t0_8 t0_9 t0_10 t0_11 t0_12 t0_13 t0_14 t0_15 t0_16 lx95 lx95 a46 t0_20 t0_21 t1_0 t2_0 lx96 t4_0 = g
      intro w bd
      refine ⟨u, Or.inr (Or.inr ⟨xf, u1⟩), ?_⟩
      unfold F_VR_numeric_c310
      rcases cl nx with ⟨k1, k2⟩ | ⟨k1, k2⟩
      · rw [if_pos k1, k2, List.append_nil]
        exact ⟨w, rfl, rfl⟩
      · rw [if_neg (by rw [k1]; decide), Z_h40, k2]
        by_cases e : t0_9 &&& 32 = 0
        · rw [if_pos e, if_pos (rfl : (0 : Int32) = 0), if_pos e, List.append_nil]
          exact ⟨w, rfl, rfl⟩
        · rw [if_neg e, if_neg (show ¬ (1 : Int32) = 0 by decide), if_neg e]
          unfold F_VR_put
          have w2 := V_rt (x := 41) (v := 41) w (by
            have w1 := w.1
            have b2 := bd.2
            omega) rfl
          unfold F_VR_numeric_c330
          exact ⟨w2, rfl, rfl⟩

