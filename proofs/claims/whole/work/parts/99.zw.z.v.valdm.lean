/-! values, for whole: the class's Digits: where rounding goes outwards -/
/-- what stands below the figure m; one more or none, by the rounding -/
def yTl (N m : Nat) : Nat := N % 10 ^ m
def yOut (md : Int32) (N m : Nat) : Nat := if md = 0 then 0 else if N % 10 ^ m = 0 then 0 else if md = 1 then 1 else if 10 ^ m < 2 * (N % 10 ^ m) then 1 else if 2 * (N % 10 ^ m) = 10 ^ m then (if md = 2 then 1 else N / 10 ^ m % 2) else 0
theorem yTl_s (N m : Nat) : yTl N (m + 1) = yTl N m + 10 ^ m * yLo N m := by
  unfold yTl yLo
  rw [Nat.pow_succ, Nat.mod_mul]
theorem yTl_z {N m : Nat} (h : yLo N m = 0) : yTl N (m + 1) = yTl N m := by
  rw [yTl_s, h, Nat.mul_zero, Nat.add_zero]
theorem yTl_n {N m : Nat} (h : yLo N m ≠ 0) : yTl N (m + 1) ≠ 0 := by
  rw [yTl_s]
  have p : 0 < 10 ^ m := Nat.pow_pos (by decide)
  have := Nat.mul_pos p (Nat.pos_of_ne_zero h)
  omega
theorem yTl_0 (N : Nat) : yTl N 0 = 0 := Nat.mod_one N
theorem yOut_s {md : Int32} {N m : Nat} : yOut md N (m + 1) = if md = 0 then 0 else if md = 1 then (if yLo N m = 0 ∧ yTl N m = 0 then 0 else 1) else if yLo N m = 5 then (if yTl N m = 0 then (if md = 2 then 1 else N / 10 ^ (m + 1) % 2) else 1) else if yLo N m < 5 then 0 else 1 := by
  have s : N % 10 ^ (m + 1) = yTl N m + 10 ^ m * yLo N m := yTl_s N m
  have p : 0 < 10 ^ m := Nat.pow_pos (by decide)
  have l : yTl N m < 10 ^ m := Nat.mod_lt _ p
  have a9 := yLo_9 N m
  unfold yOut
  rw [s, Nat.pow_succ]
  by_cases g0 : md = 0
  · rw [if_pos g0, if_pos g0]
  rw [if_neg g0, if_neg g0]
  generalize N / (10 ^ m * 10) % 2 = b
  revert p l a9
  generalize 10 ^ m = u
  generalize yTl N m = r
  generalize yLo N m = a
  intro p l a9
  by_cases g1 : md = 1
  · rw [if_pos g1, if_pos g1]
    by_cases z : a = 0 ∧ r = 0
    · rw [if_pos z, if_pos (by rw [z.1, z.2, Nat.mul_zero])]
    · rw [if_neg z, if_neg]
      intro q
      apply z
      have r0 : r = 0 := by omega
      refine ⟨?_, r0⟩
      have : u * a = 0 := by omega
      rcases Nat.mul_eq_zero.mp this with k | k
      · omega
      · exact k
  rw [if_neg g1, if_neg g1]
  have c : a = 0 ∨ a = 1 ∨ a = 2 ∨ a = 3 ∨ a = 4 ∨ a = 5 ∨ a = 6 ∨ a = 7 ∨ a = 8 ∨ a = 9 := by omega
  rcases c with rfl | rfl | rfl | rfl | rfl | rfl | rfl | rfl | rfl | rfl
  · rw [if_neg (by decide : ¬ 0 = 5), if_pos (by decide : 0 < 5)]
    split
    · rfl
    · rw [if_neg (by omega), if_neg (by omega)]
  · rw [if_neg (by decide : ¬ 1 = 5), if_pos (by decide : 1 < 5), if_neg (by omega), if_neg (by omega), if_neg (by omega)]
  · rw [if_neg (by decide : ¬ 2 = 5), if_pos (by decide : 2 < 5), if_neg (by omega), if_neg (by omega), if_neg (by omega)]
  · rw [if_neg (by decide : ¬ 3 = 5), if_pos (by decide : 3 < 5), if_neg (by omega), if_neg (by omega), if_neg (by omega)]
  · rw [if_neg (by decide : ¬ 4 = 5), if_pos (by decide : 4 < 5), if_neg (by omega), if_neg (by omega), if_neg (by omega)]
  · rw [if_pos (rfl : 5 = 5), if_neg (by omega)]
    by_cases z : r = 0
    · rw [if_pos z, if_neg (by omega), if_pos (by omega)]
    · rw [if_neg z, if_pos (by omega)]
  · rw [if_neg (by decide : ¬ 6 = 5), if_neg (by decide : ¬ 6 < 5), if_neg (by omega), if_pos (by omega)]
  · rw [if_neg (by decide : ¬ 7 = 5), if_neg (by decide : ¬ 7 < 5), if_neg (by omega), if_pos (by omega)]
  · rw [if_neg (by decide : ¬ 8 = 5), if_neg (by decide : ¬ 8 < 5), if_neg (by omega), if_pos (by omega)]
  · rw [if_neg (by decide : ¬ 9 = 5), if_neg (by decide : ¬ 9 < 5), if_neg (by omega), if_pos (by omega)]
theorem y_par {x : Int32} {N m : Nat} (h : x.toInt = ((yLo N m : Nat) : Int)) : ((x &&& 1) = 1 ↔ N / 10 ^ m % 2 = 1) := by
  have p : yLo N m % 2 = N / 10 ^ m % 2 := by
    unfold yLo
    omega
  rw [← p]
  have l := yLo_9 N m
  revert h l
  generalize yLo N m = v
  intro h l
  rw [v_amt h]
  have key : ∀ v : Nat, v < 10 → ((Int32.ofNat v &&& 1) = 1 ↔ v % 2 = 1) := by decide +kernel
  exact key v l
theorem y_md {x : Int32} (h : 0 ≤ x.toInt ∧ x.toInt ≤ 3) : x = 0 ∨ x = 1 ∨ x = 2 ∨ x = 3 := by
  have f : ∀ k : Int32, x.toInt = k.toInt → x = k := fun k e => Int32.toInt_inj.mp e
  have c : x.toInt = 0 ∨ x.toInt = 1 ∨ x.toInt = 2 ∨ x.toInt = 3 := by omega
  rcases c with e | e | e | e
  · exact Or.inl (f 0 e)
  · exact Or.inr (Or.inl (f 1 e))
  · exact Or.inr (Or.inr (Or.inl (f 2 e)))
  · exact Or.inr (Or.inr (Or.inr (f 3 e)))
theorem V_gwJ {K_F_Dig_goesOutwards_L26 : Int32 → Int32 → Int32} {x2 : Int32} {x3 : Int32} {t0_0 : Int32} {t0_1 : Int32} {t1_0 : (Nat → Int32)} {a11 : Int32} {lx14 : Int32} {lx32 : Int32} {lx33 : Int32} {S c m : Nat} (h : yDgc t0_0 t1_0 S c) (hm : x2.toInt + ((m + 1 : Nat) : Int) = (c : Int)) (hx : -100000 ≤ x2.toInt) (hmd : 0 ≤ x3.toInt ∧ x3.toInt ≤ 3) (ha : a11.toInt = ((yLo S m : Nat) : Int)) (hb : (lx33 = 0 ∧ yTl S m = 0) ∨ (lx33 = 1 ∧ yTl S m ≠ 0)) : (F_Dig_goesOutwards_J63 K_F_Dig_goesOutwards_L26 x2 x3 t0_0 t0_1 t1_0 a11 lx14 lx32 lx33).toInt = ((yOut x3 S (m + 1) : Nat) : Int) := by
  have e1 : (1 : Int32).toInt = 1 := rfl
  have e0 : (0 : Int32).toInt = 0 := rfl
  have e5 : (5 : Int32).toInt = 5 := rfl
  have a0 : a11 = 0 ↔ yLo S m = 0 := ⟨fun q => by rw [q, e0] at ha; omega, fun q => Int32.toInt_inj.mp (by rw [ha, q]; rfl)⟩
  have a5 : a11 = 5 ↔ yLo S m = 5 := ⟨fun q => by rw [q, e5] at ha; omega, fun q => Int32.toInt_inj.mp (by rw [ha, q]; rfl)⟩
  have al : a11 < 5 ↔ yLo S m < 5 := by
    rw [Int32.lt_iff_toInt_lt, ha, e5]
    omega
  have b0 : lx33 = 0 ↔ yTl S m = 0 := by
    rcases hb with ⟨q, w⟩ | ⟨q, w⟩
    · exact ⟨fun _ => w, fun _ => q⟩
    · exact ⟨fun k => by rw [q] at k; exact absurd k (by decide), fun k => absurd k w⟩
  have fg : (F_Dig_figure (x2 - 1) t0_0 t0_1 t1_0).toInt = ((yLo S (m + 1) : Nat) : Int) := by
    have := V_figZ (x := x2 - 1) (pw := t0_1) (z := ((m + 1 : Nat) : Int)) h (fun _ => by rw [q_subI rfl e1 (by omega) (by have := q_hi32 (x := x2); omega)]; omega)
    rw [this]
    unfold yFz
    rw [if_neg (by omega)]
    rfl
  have pr := y_par fg
  rw [yOut_s]
  unfold F_Dig_goesOutwards_J63
  have half : (∀ d : Int32, ((if (F_Dig_figure (x2 - 1) t0_0 t0_1 t1_0 &&& 1) = 1 then (1 : Int32) else 0)).toInt = ((S / 10 ^ (m + 1) % 2 : Nat) : Int)) := by
    intro _
    by_cases g : (F_Dig_figure (x2 - 1) t0_0 t0_1 t1_0 &&& 1) = 1
    · rw [if_pos g, pr.mp g]
      rfl
    · rw [if_neg g]
      have : S / 10 ^ (m + 1) % 2 = 0 := by
        rcases Nat.mod_two_eq_zero_or_one (S / 10 ^ (m + 1)) with q | q
        · exact q
        · exact absurd (pr.mpr q) g
      rw [this]
      rfl
  have big : ∀ md : Int32, md = 2 ∨ md = 3 → (if a11 = 5 then (if lx33 = 0 then (if md = 2 then (1 : Int32) else (if (F_Dig_figure (x2 - 1) t0_0 t0_1 t1_0 &&& 1) = 1 then (1 : Int32) else 0)) else 1) else (if a11 < 5 then 0 else 1)).toInt = (((if yLo S m = 5 then (if yTl S m = 0 then (if md = 2 then 1 else S / 10 ^ (m + 1) % 2) else 1) else if yLo S m < 5 then 0 else 1) : Nat) : Int) := by
    intro md hmd2
    by_cases g5 : yLo S m = 5
    · rw [if_pos g5, if_pos (a5.mpr g5)]
      by_cases z : yTl S m = 0
      · rw [if_pos z, if_pos (b0.mpr z)]
        rcases hmd2 with rfl | rfl
        · rw [if_pos rfl, if_pos rfl]
          rfl
        · rw [if_neg (by decide : ¬ (3 : Int32) = 2), if_neg (by decide : ¬ (3 : Int32) = 2)]
          exact half 0
      · rw [if_neg z, if_neg (fun q => z (b0.mp q))]
        rfl
    · rw [if_neg g5, if_neg (fun q => g5 (a5.mp q))]
      by_cases g : yLo S m < 5
      · rw [if_pos g, if_pos (al.mpr g)]
        rfl
      · rw [if_neg g, if_neg (fun q => g (al.mp q))]
        rfl
  rcases y_md hmd with rfl | rfl | rfl | rfl
  · rw [if_neg (by decide : ¬ (1 : Int32) < 0), if_neg (by decide : ¬ (0 : Int32) = 1), if_pos (rfl : (0 : Int32) = 0)]
    rfl
  · rw [if_neg (by decide : ¬ (1 : Int32) < 1), if_pos (rfl : (1 : Int32) = 1), if_neg (by decide : ¬ (1 : Int32) = 0), if_pos (rfl : (1 : Int32) = 1)]
    by_cases z : yLo S m = 0
    · rw [if_pos (a0.mpr z)]
      by_cases w : yTl S m = 0
      · rw [if_pos (b0.mpr w), if_pos ⟨z, w⟩]
        rfl
      · rw [if_neg (fun q => w (b0.mp q)), if_neg (fun q => w q.2)]
        rfl
    · rw [if_neg (fun q => z (a0.mp q)), if_neg (fun q => z q.1)]
      rfl
  · rw [if_pos (by decide : (1 : Int32) < 2), if_neg (by decide : ¬ (2 : Int32) = 0), if_neg (by decide : ¬ (2 : Int32) = 1)]
    exact big 2 (Or.inl rfl)
  · rw [if_pos (by decide : (1 : Int32) < 3), if_neg (by decide : ¬ (3 : Int32) = 0), if_neg (by decide : ¬ (3 : Int32) = 1)]
    exact big 3 (Or.inr rfl)
theorem V_gwL {x2 : Int32} {x3 : Int32} {t0_0 : Int32} {t0_1 : Int32} {t1_0 : (Nat → Int32)} {a11 : Int32} {lx14 : Int32} {S c m : Nat} (h : yDgc t0_0 t1_0 S c) (hm : x2.toInt + ((m + 1 : Nat) : Int) = (c : Int)) (hx : -100000 ≤ x2.toInt) (hmd : 0 ≤ x3.toInt ∧ x3.toInt ≤ 3) (ha : a11.toInt = ((yLo S m : Nat) : Int)) : ∀ (n : Nat) (lx32 : Int32) (lx33 : Int32), ∀ (i z : Nat), lx32.toInt = (i : Int) → i + z = c → z < n → ((lx33 = 0 ∧ yTl S m = yTl S z) ∨ (lx33 = 1 ∧ yTl S m ≠ 0)) → (F_Dig_goesOutwards_L26 x2 x3 t0_0 t0_1 t1_0 a11 lx14 n lx32 lx33).toInt = ((yOut x3 S (m + 1) : Nat) : Int) := by
  have e1 : (1 : Int32).toInt = 1 := rfl
  have e0 : (0 : Int32).toInt = 0 := rfl
  obtain ⟨d1, d2, d3, d4⟩ := h
  have hh : yDgc t0_0 t1_0 S c := ⟨d1, d2, d3, d4⟩
  intro n
  induction n with
  | zero =>
    intro lx32 lx33 i z g1 g2 g3
    omega
  | succ n ih =>
    intro lx32 lx33 i z g1 g2 g3 g4
    rw [F_Dig_goesOutwards_L26.eq_2]
    by_cases q : t0_0 ≤ lx32
    · rw [if_pos q]
      have q := q_leI q
      obtain rfl : z = 0 := by omega
      rw [yTl_0] at g4
      exact V_gwJ hh hm hx hmd ha g4
    · rw [if_neg q]
      have q := q_nleI q
      obtain ⟨y, rfl⟩ : ∃ y, z = y + 1 := ⟨z - 1, by omega⟩
      rcases g4 with ⟨w1, w2⟩ | ⟨w1, w2⟩
      · rw [if_pos w1]
        have ix : lx32.toNatClampNeg = i := by
          show lx32.toInt.toNat = i
          omega
        have dg := d4 i (by omega)
        have fe : yFg S c i = yLo S y := by
          unfold yFg
          rw [show c - 1 - i = y from by omega]
        rw [fe] at dg
        rw [ix]
        by_cases k : yLo S y = 0
        · rw [if_pos (Int32.toInt_inj.mp (by rw [dg, k]; rfl))]
          exact ih (lx32 + 1) 0 (i + 1) y (q_addI g1 e1 (by omega) (by omega)) (by omega) (by omega) (Or.inl ⟨rfl, by rw [w2, yTl_z k]⟩)
        · rw [if_neg (fun g => k (by rw [g, e0] at dg; omega))]
          exact ih (lx32 + 1) 1 (i + 1) y (q_addI g1 e1 (by omega) (by omega)) (by omega) (by omega) (Or.inr ⟨rfl, by rw [w2]; exact yTl_n k⟩)
      · rw [if_neg (by rw [w1]; decide)]
        exact V_gwJ hh hm hx hmd ha (Or.inr ⟨w1, w2⟩)
theorem V_gwO {x2 : Int32} {x3 : Int32} {t0_0 : Int32} {t0_1 : Int32} {t1_0 : (Nat → Int32)} {S c m : Nat} (h : yDgc t0_0 t1_0 S c) (hS : S ≠ 0) (hm : x2.toInt + ((m + 1 : Nat) : Int) = (c : Int)) (hx : -100000 ≤ x2.toInt) (hmd : 0 ≤ x3.toInt ∧ x3.toInt ≤ 3) : (F_Dig_goesOutwards x2 x3 t0_0 t0_1 t1_0).toInt = ((yOut x3 S (m + 1) : Nat) : Int) := by
  have e1 : (1 : Int32).toInt = 1 := rfl
  have e0 : (0 : Int32).toInt = 0 := rfl
  obtain ⟨d1, d2, d3, d4⟩ := h
  have hh : yDgc t0_0 t1_0 S c := ⟨d1, d2, d3, d4⟩
  have fg : (F_Dig_figure x2 t0_0 t0_1 t1_0).toInt = ((yLo S m : Nat) : Int) := by
    have := V_figZ (x := x2) (pw := t0_1) (z := (m : Int)) hh (fun _ => by omega)
    rw [this]
    unfold yFz
    rw [if_neg (by omega)]
    rfl
  have a := q_addI (rfl : x2.toInt = x2.toInt) e1 (by omega) (by omega)
  unfold F_Dig_goesOutwards
  by_cases g : 0 ≤ x2
  · rw [if_pos g]
    have g := q_leI g
    unfold F_Dig_goesOutwards_J15
    rw [if_neg (fun q => by have := q_ltI q; rw [a] at this; omega)]
    exact V_gwL hh hm hx hmd fg _ (x2 + 1) 0 (x2.toInt + 1).toNat m (by rw [a]; omega) (by omega) (by rw [a]; omega) (Or.inl ⟨rfl, rfl⟩)
  · rw [if_neg g]
    have g := q_nleI g
    have nz : yTl S m ≠ 0 := by
      have : yTl S m = S := Nat.mod_eq_of_lt (Nat.lt_of_lt_of_le d3.1 (Nat.pow_le_pow_right (by decide) (by omega)))
      rw [this]
      exact hS
    have st : (if x2 + 1 < 0 then (0 : Int32) else x2 + 1).toInt = ((0 : Nat) : Int) := by
      by_cases q : x2 + 1 < 0
      · rw [if_pos q]
        rfl
      · rw [if_neg q]
        have := q_nltI q
        rw [a] at this ⊢
        omega
    unfold F_Dig_goesOutwards_J15
    exact V_gwL hh hm hx hmd fg _ _ 1 0 c st (by omega) (by rw [st]; omega) (Or.inr ⟨rfl, nz⟩)
