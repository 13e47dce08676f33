/-! values, for whole: the reference's shift -/
theorem w_and1N {z : Int32} : (z &&& 1 : Int32).toBitVec.toNat = z.toBitVec.toNat % 2 := by
  rw [Int32.toBitVec_and, BitVec.toNat_and]
  exact Nat.and_one_is_mod _
theorem nSo.fin {A m : Nat} (hA : A < 2 ^ 2048) : nSo A 2048 m ↔ A % 2 ^ m ≠ 0 := by
  unfold nSo
  by_cases h : 2048 ≤ m
  · have h1 : A < 2 ^ m := Nat.lt_of_lt_of_le hA (Nat.pow_le_pow_right (by decide) h)
    rw [if_pos h, Nat.mod_eq_of_lt hA, Nat.mod_eq_of_lt h1]
  · rw [if_neg h]
theorem w_dn {A P : Nat} (hP : 0 < P) : (-(A : Int)) / (P : Int) = if A % P = 0 then -((A / P : Nat) : Int) else -((A / P + 1 : Nat) : Int) := by
  have hp : 0 < (P : Int) := by omega
  have h1 := Nat.div_add_mod A P
  have h2 := Nat.mod_lt A hP
  have e : (A : Int) = (P : Int) * ((A / P : Nat) : Int) + ((A % P : Nat) : Int) := by
    rw [← Int.natCast_mul, ← Int.natCast_add, h1]
  split
  · exact ((Int.ediv_emod_unique (r := 0) hp).mpr ⟨by rw [Int.mul_neg]; omega, by omega, by omega⟩).1
  · exact ((Int.ediv_emod_unique (r := (P : Int) - ((A % P : Nat) : Int)) hp).mpr ⟨by rw [Int.natCast_add, Int.neg_add, Int.mul_add, Int.mul_neg]; omega, by omega, by omega⟩).1
theorem w_inc {g h : Nat → Int32} {v : Nat} (hg : wK (v : Int) g) (hv : v < 2 ^ 2048) (hh : wK 1 h) : wK ((v + 1 : Nat) : Int) (F_WR_join 264 264 1 1 0 g h) := by
  have n264 : (264 : Int32).toNatClampNeg = 264 := rfl
  have e1 : (1 : Int64).toInt = 1 := rfl
  have hj := (R_join (N := 264) (M := 264) (s := 1) (y := 1) (x5 := 0) (f := g) (g := h) (σ := 1) rfl (by decide) (by decide) (by decide) (by decide) (by decide) (hh.1.mono (by decide)) (by decide) hg.1).2
  have eg : wV g 264 = (v : Int) := hg.2
  have eh : wV h 264 = 1 := hh.2
  have h1 : wV h (1 : Int32).toNatClampNeg = 1 := by
    have := (w_is1 hh).mpr rfl
    show 0 + (h 0).toInt * 65536 ^ 0 = 1
    rw [this.2]
    rfl
  rw [n264, eg, h1, e1] at hj
  have hb : (v : Int) < 65536 ^ 128 := by
    rw [w_2048]
    exact Int.ofNat_lt.mpr hv
  have hp := w_128_264
  have hp1 : (65536 : Int) ^ 129 ≤ 65536 ^ 264 := w_pwle (by omega)
  have hp2 := w_pw 128
  have hp3 := w_pos 128
  have e2 : (v : Int) + 1 * (1 * 1) = ((v + 1 : Nat) : Int) := by omega
  rw [e2] at hj
  exact ⟨hj.1, hj.val (by omega) (by omega)⟩
theorem w_srN {A m : Nat} : (-(A : Int)) / 2 ^ m = if A % 2 ^ m = 0 then -((A / 2 ^ m : Nat) : Int) else -((A / 2 ^ m + 1 : Nat) : Int) := by
  have hp : (0 : Int) < 2 ^ m := Int.pow_pos (by decide)
  have e2 : (2 : Int) ^ m = ((2 ^ m : Nat) : Int) := by rw [Int.natCast_pow]; rfl
  have h := w_dn (A := A) (P := 2 ^ m) (Nat.pow_pos (by decide))
  rw [e2]
  exact h
theorem V_srL {x2 : Int32} {x3 : Int32} {x4 : Int32} {t0_0 : Int32} {t0_1 : Int32} {t0_2 : Int32} {t0_3 : Int32} {t0_4 : Int32} {t0_5 : Int32} {t0_6 : Int32} {t1_0 : (Nat → Int32)} {t2_0 : (Nat → Int32)} {t3_0 : (Nat → Int32)} {t4_0 : (Nat → Int32)} {t5_0 : (Nat → Int32)} {lx36 : Int32} {a67 : Int32} {f60 : (Nat → Int32)} {W : Nat → Int} {A m : Nat} (hr : wRv t1_0 t2_0 W) (hx4 : 0 ≤ x4.toInt ∧ x4.toInt ≤ 10) (hF : wK (A : Int) f60) (hA : A < 2 ^ 2048) (hx3 : x3.toInt = -(m : Int)) (ha67 : a67 = 0 ∨ a67 = 1) (h36 : lx36 = 0) : ∀ (n : Nat) (lx84 : Int32) (lx85 : Int32) (lx86 : (Nat → Int32)), ∀ k : Nat, lx84.toInt = (k : Int) → k ≤ 2048 → 2048 - k < n → ((lx85 = 0 ∧ ¬ nSo A k m) ∨ (lx85 = 1 ∧ nSo A k m)) → wK ((A % 2 ^ k / 2 ^ m : Nat) : Int) lx86 → wAn x4 W (some (sgI a67 (A : Int) / 2 ^ m)) (F_WR_shift_L189 x2 x3 x4 t0_0 t0_1 t0_2 t0_3 t0_4 t0_5 t0_6 t1_0 t2_0 t3_0 t4_0 t5_0 lx36 a67 f60 n lx84 lx85 lx86).1 (F_WR_shift_L189 x2 x3 x4 t0_0 t0_1 t0_2 t0_3 t0_4 t0_5 t0_6 t1_0 t2_0 t3_0 t4_0 t5_0 lx36 a67 f60 n lx84 lx85 lx86).2.2.2.2.2.2.2.1 (F_WR_shift_L189 x2 x3 x4 t0_0 t0_1 t0_2 t0_3 t0_4 t0_5 t0_6 t1_0 t2_0 t3_0 t4_0 t5_0 lx36 a67 f60 n lx84 lx85 lx86).2.2.2.2.2.2.2.2.1 := by
  have e1 := v_e1
  have e48 : (2048 : Int32).toInt = 2048 := rfl
  have e0L : (0 : Int64).toInt = 0 := rfl
  have hm := Int32.le_toInt x3
  have hP : (2 : Int) ^ m = ((2 ^ m : Nat) : Int) := by rw [Int.natCast_pow]; rfl
  intro n
  induction n with
  | zero => intros; omega
  | succ n ih =>
    intro lx84 lx85 lx86 k hk hk2 hkn hso hp
    rw [F_WR_shift_L189.eq_2]
    by_cases c : 2048 ≤ lx84
    · rw [if_pos c]
      have c2 := q_leI c
      have kE : k = 2048 := by omega
      rw [kE, Nat.mod_eq_of_lt hA] at hp
      rw [kE, nSo.fin hA] at hso
      by_cases d : a67 = 0
      · rw [if_pos d]
        have hs : wSv x4 W ((A / 2 ^ m : Nat) : Int) lx36 2 a67 (F_WR_store x4 lx36 (2 : Int32) t0_2 a67 t0_4 t0_5 t0_6 t1_0 t2_0 lx86) := (R_storeV hx4 hr hp).2
        generalize (F_WR_store x4 lx36 (2 : Int32) t0_2 a67 t0_4 t0_5 t0_6 t1_0 t2_0 lx86) = p137 at hs ⊢
        unfold F_WR_shift_c331
        refine wAn_st hs h36 rfl ?_ (Int.natCast_nonneg _)
        rw [d, sgI0, sgI0, hP, Int.natCast_ediv]
      · rw [if_neg d]
        have d1 := ha67.resolve_left d
        have es : sgI a67 (A : Int) / 2 ^ m = (-(A : Int)) / 2 ^ m := by rw [d1, sgI, if_neg (by decide)]
        rw [es, w_srN]
        by_cases o : lx85 = 0
        · rw [if_pos o]
          have hz : A % 2 ^ m = 0 := by
            rcases hso with ⟨_, h⟩ | ⟨h, _⟩
            · exact Classical.byContradiction h
            · rw [o] at h
              exact absurd h (by decide)
          rw [if_pos hz]
          have hs : wSv x4 W ((A / 2 ^ m : Nat) : Int) lx36 2 a67 (F_WR_store x4 lx36 (2 : Int32) t0_2 a67 t0_4 t0_5 t0_6 t1_0 t2_0 lx86) := (R_storeV hx4 hr hp).2
          generalize (F_WR_store x4 lx36 (2 : Int32) t0_2 a67 t0_4 t0_5 t0_6 t1_0 t2_0 lx86) = p185 at hs ⊢
          unfold F_WR_shift_c331_4
          refine wAn_st hs h36 rfl ?_ (Int.natCast_nonneg _)
          rw [d1, sgI, if_neg (by decide)]
        · rw [if_neg o]
          have hz : ¬ A % 2 ^ m = 0 := by
            rcases hso with ⟨h, _⟩ | ⟨_, h⟩
            · exact absurd h o
            · exact h
          rw [if_neg hz]
          have h1 : wK 1 (F_WR_setOne 264 lx36 2 t0_2 a67 t0_4 t0_5 t0_6 t4_0) := R_setOne.2
          have hj := w_inc hp (Nat.lt_of_le_of_lt (Nat.div_le_self A (2 ^ m)) hA) h1
          have hs : wSv x4 W ((A / 2 ^ m + 1 : Nat) : Int) lx36 2 a67 (F_WR_store x4 lx36 (2 : Int32) t0_2 a67 t0_4 t0_5 t0_6 t1_0 t2_0 ((F_WR_join (264 : Int32) (264 : Int32) (1 : Int32) (1 : Int64) (0 : Int32) lx86 ((F_WR_setOne (264 : Int32) lx36 (2 : Int32) t0_2 a67 t0_4 t0_5 t0_6 t4_0) : (Nat → Int32))) : (Nat → Int32))) := (R_storeV hx4 hr hj).2
          generalize (F_WR_store x4 lx36 (2 : Int32) t0_2 a67 t0_4 t0_5 t0_6 t1_0 t2_0 ((F_WR_join (264 : Int32) (264 : Int32) (1 : Int32) (1 : Int64) (0 : Int32) lx86 ((F_WR_setOne (264 : Int32) lx36 (2 : Int32) t0_2 a67 t0_4 t0_5 t0_6 t4_0) : (Nat → Int32))) : (Nat → Int32))) = p247 at hs ⊢
          unfold F_WR_shift_c331_5
          refine wAn_st hs h36 rfl ?_ (Int.natCast_nonneg _)
          rw [d1, sgI, if_neg (by decide)]
    · rw [if_neg c]
      have c2 := q_nleI c
      have k3 : k < 2048 := by omega
      have kn : 2048 - (k + 1) < n := by omega
      have hbit := w_fbit hF hk (by omega)
      rw [Int.natAbs_natCast] at hbit
      have ej : (lx84 + 1 : Int32).toInt = ((k + 1 : Nat) : Int) := by
        rw [q_addI hk e1 (by omega) (by omega)]
        omega
      have hat : (lx84.toInt64 + x3.toInt64 : Int64).toInt = (k : Int) - (m : Int) := by
        rw [q_addL (q_i2l hk) (q_i2l hx3) (by omega) (by omega)]
        omega
      have hb1 : A / 2 ^ k % 2 ≤ 1 := by omega
      have step : ∀ l : Int32, ((l = 0 ∧ ¬ nSo A (k + 1) m) ∨ (l = 1 ∧ nSo A (k + 1) m)) → wAn x4 W (some (sgI a67 (A : Int) / 2 ^ m)) (F_WR_shift_J248 (F_WR_shift_L189 x2 x3 x4 t0_0 t0_1 t0_2 t0_3 t0_4 t0_5 t0_6 t1_0 t2_0 t3_0 t4_0 t5_0 lx36 a67 f60 n) x2 x3 x4 t0_0 t0_1 t0_2 t0_3 t0_4 t0_5 t0_6 t1_0 t2_0 t3_0 t4_0 t5_0 lx36 a67 f60 lx84 lx85 lx86 (lx84.toInt64 + x3.toInt64) (((f60 (lx84 / 16 : Int32).toNatClampNeg) >>> ((lx84 - lx84 / 16 * 16) &&& 31)) &&& 1) l).1 (F_WR_shift_J248 (F_WR_shift_L189 x2 x3 x4 t0_0 t0_1 t0_2 t0_3 t0_4 t0_5 t0_6 t1_0 t2_0 t3_0 t4_0 t5_0 lx36 a67 f60 n) x2 x3 x4 t0_0 t0_1 t0_2 t0_3 t0_4 t0_5 t0_6 t1_0 t2_0 t3_0 t4_0 t5_0 lx36 a67 f60 lx84 lx85 lx86 (lx84.toInt64 + x3.toInt64) (((f60 (lx84 / 16 : Int32).toNatClampNeg) >>> ((lx84 - lx84 / 16 * 16) &&& 31)) &&& 1) l).2.2.2.2.2.2.2.1 (F_WR_shift_J248 (F_WR_shift_L189 x2 x3 x4 t0_0 t0_1 t0_2 t0_3 t0_4 t0_5 t0_6 t1_0 t2_0 t3_0 t4_0 t5_0 lx36 a67 f60 n) x2 x3 x4 t0_0 t0_1 t0_2 t0_3 t0_4 t0_5 t0_6 t1_0 t2_0 t3_0 t4_0 t5_0 lx36 a67 f60 lx84 lx85 lx86 (lx84.toInt64 + x3.toInt64) (((f60 (lx84 / 16 : Int32).toNatClampNeg) >>> ((lx84 - lx84 / 16 * 16) &&& 31)) &&& 1) l).2.2.2.2.2.2.2.2.1 := fun l hl => by
        unfold F_WR_shift_J248
        by_cases g : lg_cmp (lx84.toInt64 + x3.toInt64) 0 < 0
        · rw [if_pos g]
          have g2 := q_k1 g
          rw [hat, e0L] at g2
          refine ih _ _ _ (k + 1) ej k3 kn hl ?_
          rw [n_sh0 (show k + 1 ≤ m by omega)]
          rw [n_sh0 (show k ≤ m by omega)] at hp
          exact hp
        · rw [if_neg g]
          have g2 := q_k2 g
          rw [hat, e0L] at g2
          have hmk : m ≤ k := by omega
          have hji : (lx84.toInt64 + x3.toInt64 : Int64).toInt32.toInt = ((k - m : Nat) : Int) := by
            rw [s_l2i (by rw [hat]; omega) (by rw [hat]; omega), hat]
            omega
          refine ih _ _ _ (k + 1) ej k3 kn hl ?_
          rw [n_shS hmk]
          exact w_bitUp hp (n_shL hmk) hji (by omega) (w_and1N.trans hbit) hb1
      have hlt : (k < m ↔ lg_cmp (lx84.toInt64 + x3.toInt64) 0 < 0) ∧ (m ≤ k ↔ 0 ≤ lg_cmp (lx84.toInt64 + x3.toInt64) 0) := by
        have e0 : (0 : Int32).toInt = 0 := rfl
        have em : (-1 : Int32).toInt = -1 := rfl
        rcases q_cm3 (lx84.toInt64 + x3.toInt64) 0 with ⟨a, b⟩ | ⟨a, b⟩ | ⟨a, b⟩ <;> rw [b] <;> rw [hat, e0L] at a
        · exact ⟨⟨fun _ => by decide, fun _ => by omega⟩, ⟨fun h => by omega, fun h => absurd h (by decide)⟩⟩
        · exact ⟨⟨fun h => by omega, fun h => absurd h (by decide)⟩, ⟨fun _ => by decide, fun _ => by omega⟩⟩
        · exact ⟨⟨fun h => by omega, fun h => absurd h (by decide)⟩, ⟨fun _ => by decide, fun _ => by omega⟩⟩
      have hso2 : nSo A (k + 1) m ↔ (nSo A k m ∨ (k < m ∧ A / 2 ^ k % 2 = 1)) := by
        by_cases h : k < m
        · rw [nSo.lo h]
          exact ⟨fun q => q.imp id (fun z => ⟨h, z⟩), fun q => q.imp id (fun z => z.2)⟩
        · rw [nSo.hi (by omega)]
          exact ⟨Or.inl, fun q => q.resolve_right (fun z => h z.1)⟩
      by_cases o : lx85 = 0
      · rw [if_pos o]
        have hns : ¬ nSo A k m := by
          rcases hso with ⟨_, h⟩ | ⟨h, _⟩
          · exact h
          · rw [o] at h
            exact absurd h (by decide)
        by_cases b : (((f60 (lx84 / 16 : Int32).toNatClampNeg) >>> ((lx84 - lx84 / 16 * 16) &&& 31)) &&& 1 : Int32) = 1
        · rw [if_pos b]
          have hb := hbit.symm.trans (w_and1.mp b)
          by_cases g : 0 ≤ lg_cmp (lx84.toInt64 + x3.toInt64) 0
          · rw [if_pos g]
            unfold F_WR_shift_J247
            exact step 0 (Or.inl ⟨rfl, fun h => (hso2.mp h).elim hns (fun z => by have := hlt.2.mpr g; omega)⟩)
          · rw [if_neg g]
            unfold F_WR_shift_J243
            exact step 1 (Or.inr ⟨rfl, hso2.mpr (Or.inr ⟨Nat.lt_of_not_le (fun z => g (hlt.2.mp z)), hb⟩)⟩)
        · rw [if_neg b]
          unfold F_WR_shift_J247
          exact step 0 (Or.inl ⟨rfl, fun h => (hso2.mp h).elim hns (fun z => b (w_and1.mpr (hbit.trans z.2)))⟩)
      · rw [if_neg o]
        have hns : nSo A k m := by
          rcases hso with ⟨h, _⟩ | ⟨_, h⟩
          · exact absurd h o
          · exact h
        unfold F_WR_shift_J243
        exact step 1 (Or.inr ⟨rfl, hso2.mpr (Or.inl hns)⟩)
