/-! values, for whole: what the reference tells: the loop -/
def QV_tl (x3 : Int32) (v g : Int) (a b c : Int64) (j : Nat) (th : Int32) (p : Int64 × Int32 × Int32 × Int32 × Int32 × Int32 × Int32 × Int32) : Prop := p.2.1 = th ∧ p.1.toInt = if x3 = 2 then (if c.toInt = 0 then (tLen v g j : Int) else c.toInt) else if x3 = 3 then b.toInt + tCnt v g j else (if 0 ≤ tLow v j then tLow v j else a.toInt)
theorem w_i64 (x : Int32) : x.toInt64.toInt = x.toInt := Int32.toInt_toInt64 x
theorem w_dv16 {x : Int32} {m : Nat} (hm : x.toInt = (m : Int)) (h : m ≤ 4000) : (x / 16 : Int32).toInt = ((m / 16 : Nat) : Int) := by
  have e16 : (16 : Int32).toInt = 16 := rfl
  rw [q_divI hm e16 (by omega) (by omega)]
  omega
theorem w_dn1 {x : Int32} {m : Nat} (hm : x.toInt = (m : Int)) (h : m ≤ 4000) : (x + (-1) : Int32).toInt = (m : Int) - 1 := by
  have em1 : (-1 : Int32).toInt = -1 := rfl
  rw [q_addI hm em1 (by omega) (by omega)]
  omega
theorem w_up1 {x : Int32} {m : Nat} (hm : x.toInt = (m : Int)) (h : m ≤ 4000) : (x + 1 : Int32).toInt64.toInt = ((m + 1 : Nat) : Int) := by
  have e1 : (1 : Int32).toInt = 1 := rfl
  rw [w_i64, q_addI hm e1 (by omega) (by omega)]
  omega
theorem w_inc64 {x : Int64} (h : 0 ≤ x.toInt) (h2 : x.toInt ≤ 4000) : (x + 1 : Int64).toInt = x.toInt + 1 := by
  have e1L : (1 : Int64).toInt = 1 := rfl
  rw [Int64.toInt_add, e1L, Int.bmod_eq_of_le (by omega) (by omega)]
theorem V_tlL {x2 x3 t0_0 t0_1 t0_2 t0_3 t0_4 t0_5 t0_6 : Int32} {t1_0 t2_0 : Nat → Int32} {lx27 lx51 : Int32} {W : Nat → Int} {g : Int} (hr : wRv t1_0 t2_0 W) (hx2 : 0 ≤ x2.toInt ∧ x2.toInt ≤ 10) (hg : lx51.toInt = g) : ∀ (n : Nat) (lx67 : Int32) (lx68 lx69 lx70 : Int64), ∀ j : Nat, lx67.toInt = (j : Int) - 1 → j ≤ 2048 → j < n → 0 ≤ lx69.toInt → lx69.toInt + j ≤ 2048 → QV_tl x3 (W x2.toNatClampNeg) g lx68 lx69 lx70 j lx27 (F_WR_told_L144 x2 x3 t0_0 t0_1 t0_2 t0_3 t0_4 t0_5 t0_6 t1_0 t2_0 lx27 lx51 n lx67 lx68 lx69 lx70) := by
  have e0 : (0 : Int32).toInt = 0 := rfl
  have e1 : (1 : Int32).toInt = 1 := rfl
  have e16 : (16 : Int32).toInt = 16 := rfl
  have em1 : (-1 : Int32).toInt = -1 := rfl
  have e1L : (1 : Int64).toInt = 1 := rfl
  have e0L : (0 : Int64).toInt = 0 := rfl
  intro n
  induction n with
  | zero => intros; omega
  | succ n ih =>
    intro lx67 lx68 lx69 lx70 j hj hj2 hjn h9 h9b
    rw [F_WR_told_L144.eq_2]
    by_cases c : lx67 < 0
    · rw [if_pos c]
      have c2 := q_ltI c
      have j0 : j = 0 := by omega
      subst j0
      unfold QV_tl
      by_cases d2 : x3 = 2
      · rw [if_pos d2, if_pos d2]
        refine ⟨rfl, ?_⟩
        show lx70.toInt = if lx70.toInt = 0 then (0 : Int) else lx70.toInt
        split <;> omega
      · rw [if_neg d2, if_neg d2]
        by_cases d3 : x3 = 3
        · rw [if_pos d3, if_pos d3]
          refine ⟨rfl, ?_⟩
          show lx69.toInt = lx69.toInt + 0
          omega
        · rw [if_neg d3, if_neg d3]
          refine ⟨rfl, ?_⟩
          show lx68.toInt = if (0 : Int) ≤ -1 then (-1 : Int) else lx68.toInt
          rw [if_neg (by decide)]
    · rw [if_neg c]
      have c2 := q_nltI c
      obtain ⟨m, rfl⟩ : ∃ m, j = m + 1 := ⟨j - 1, by omega⟩
      have hm : lx67.toInt = (m : Int) := by omega
      have hm4 : m ≤ 4000 := by omega
      have h94 : lx69.toInt ≤ 4000 := by omega
      have hml : m < 4000 := by omega
      have a9 : wE (lx69 + 1 : Int64).toInt (lx69.toInt + 1) := w_inc64 h9 h94
      have ej : wE (lx67 + (-1) : Int32).toInt ((m : Int) - 1) := w_dn1 hm hm4
      have eu : wE (lx67 + 1 : Int32).toInt64.toInt ((m + 1 : Nat) : Int) := w_up1 hm hm4
      have e7 : wE lx67.toInt64.toInt (m : Int) := (w_i64 lx67).trans hm
      have s1 := sBit_01 (v := W x2.toNatClampNeg) (n := m)
      have main : ∀ a : Int32, a.toInt = sBit (W x2.toNatClampNeg) m → QV_tl x3 (W x2.toNatClampNeg) g lx68 lx69 lx70 (m + 1) lx27 (if a = lx51 then F_WR_told_J190 (F_WR_told_L144 x2 x3 t0_0 t0_1 t0_2 t0_3 t0_4 t0_5 t0_6 t1_0 t2_0 lx27 lx51 n) x2 x3 t0_0 t0_1 t0_2 t0_3 t0_4 t0_5 t0_6 t1_0 t2_0 lx27 lx51 lx67 lx68 lx69 lx70 a else if lg_cmp lx70 0 = 0 then F_WR_told_J192 (F_WR_told_L144 x2 x3 t0_0 t0_1 t0_2 t0_3 t0_4 t0_5 t0_6 t1_0 t2_0 lx27 lx51 n) x2 x3 t0_0 t0_1 t0_2 t0_3 t0_4 t0_5 t0_6 t1_0 t2_0 lx27 lx51 lx67 lx68 lx69 lx70 a (lx67 + 1).toInt64 else F_WR_told_J190 (F_WR_told_L144 x2 x3 t0_0 t0_1 t0_2 t0_3 t0_4 t0_5 t0_6 t1_0 t2_0 lx27 lx51 n) x2 x3 t0_0 t0_1 t0_2 t0_3 t0_4 t0_5 t0_6 t1_0 t2_0 lx27 lx51 lx67 lx68 lx69 lx70 a) := by
        intro a lb
        have hag : a = lx51 ↔ sBit (W x2.toNatClampNeg) m = g := by
          rw [← Int32.toInt_inj, lb, hg]
        have ha1 : a = 1 ↔ sBit (W x2.toNatClampNeg) m = 1 := by
          rw [← Int32.toInt_inj, lb, e1]
        have key : ∀ l110 l123 : Int64, (sBit (W x2.toNatClampNeg) m = g ∧ l110 = lx70 ∧ l123 = lx69) ∨ (¬ sBit (W x2.toNatClampNeg) m = g ∧ l110.toInt = (if lx70.toInt = 0 then ((m + 1 : Nat) : Int) else lx70.toInt) ∧ l123 = lx69 + 1) → QV_tl x3 (W x2.toNatClampNeg) g lx68 lx69 lx70 (m + 1) lx27 (F_WR_told_J209 (F_WR_told_L144 x2 x3 t0_0 t0_1 t0_2 t0_3 t0_4 t0_5 t0_6 t1_0 t2_0 lx27 lx51 n) x2 x3 t0_0 t0_1 t0_2 t0_3 t0_4 t0_5 t0_6 t1_0 t2_0 lx27 lx51 lx67 lx68 lx69 lx70 a l110 l123) := by
          intro l110 l123 hh
          have hb : 0 ≤ l123.toInt ∧ l123.toInt + m ≤ 2048 := by
            rcases hh with ⟨_, _, q⟩ | ⟨_, _, q⟩
            · rw [q]
              omega
            · rw [q, show (lx69 + 1 : Int64).toInt = lx69.toInt + 1 from a9]
              omega
          have fin : ∀ l68 : Int64, l68.toInt = (if sBit (W x2.toNatClampNeg) m = 1 then (m : Int) else lx68.toInt) → QV_tl x3 (W x2.toNatClampNeg) g lx68 lx69 lx70 (m + 1) lx27 (F_WR_told_L144 x2 x3 t0_0 t0_1 t0_2 t0_3 t0_4 t0_5 t0_6 t1_0 t2_0 lx27 lx51 n (lx67 + (-1)) l68 l123 l110) := by
            intro l68 h68
            obtain ⟨f1, f2⟩ := ih (lx67 + (-1)) l68 l123 l110 m ej (by omega) (by omega) hb.1 hb.2
            refine ⟨f1, ?_⟩
            rw [f2]
            by_cases d2 : x3 = 2
            · rw [if_pos d2, if_pos d2]
              show _ = if lx70.toInt = 0 then ((if sBit (W x2.toNatClampNeg) m = g then tLen (W x2.toNatClampNeg) g m else m + 1 : Nat) : Int) else lx70.toInt
              rcases hh with ⟨p, q, _⟩ | ⟨p, q, _⟩
              · rw [if_pos p, q]
              · rw [if_neg p, q]
                by_cases z : lx70.toInt = 0
                · rw [if_pos z, if_neg (by omega)]
                · rw [if_neg z, if_neg z]
            · rw [if_neg d2, if_neg d2]
              by_cases d3 : x3 = 3
              · rw [if_pos d3, if_pos d3]
                show _ = lx69.toInt + ((if sBit (W x2.toNatClampNeg) m = g then tCnt (W x2.toNatClampNeg) g m else tCnt (W x2.toNatClampNeg) g m + 1 : Nat) : Int)
                rcases hh with ⟨p, _, q⟩ | ⟨p, _, q⟩
                · rw [if_pos p, q]
                · rw [if_neg p, q, show (lx69 + 1 : Int64).toInt = lx69.toInt + 1 from a9]
                  omega
              · rw [if_neg d3, if_neg d3]
                show _ = if 0 ≤ (if 0 ≤ tLow (W x2.toNatClampNeg) m then tLow (W x2.toNatClampNeg) m else if sBit (W x2.toNatClampNeg) m = 1 then (m : Int) else -1) then (if 0 ≤ tLow (W x2.toNatClampNeg) m then tLow (W x2.toNatClampNeg) m else if sBit (W x2.toNatClampNeg) m = 1 then (m : Int) else -1) else lx68.toInt
                rw [h68]
                by_cases z : 0 ≤ tLow (W x2.toNatClampNeg) m
                · rw [if_pos z, if_pos z, if_pos z]
                · rw [if_neg z, if_neg z]
                  by_cases y : sBit (W x2.toNatClampNeg) m = 1
                  · rw [if_pos y, if_pos y, if_pos (by omega)]
                  · rw [if_neg y, if_neg y, if_neg (by decide)]
          unfold F_WR_told_J209
          by_cases y : a = 1
          · rw [if_pos y]
            exact fin _ (by rw [if_pos (ha1.mp y)]; exact e7)
          · rw [if_neg y]
            exact fin _ (by rw [if_neg (fun h => y (ha1.mpr h))])
        by_cases d : a = lx51
        · rw [if_pos d]
          unfold F_WR_told_J190 F_WR_told_J192
          rw [if_pos d]
          exact key _ _ (Or.inl ⟨hag.mp d, rfl, rfl⟩)
        · rw [if_neg d]
          have dn : ¬ sBit (W x2.toNatClampNeg) m = g := fun h => d (hag.mpr h)
          have hz : lg_cmp lx70 0 = 0 ↔ lx70.toInt = 0 := by
            rcases q_cm3 lx70 0 with ⟨p, q⟩ | ⟨p, q⟩ | ⟨p, q⟩
            · rw [q]
              exact ⟨fun h => absurd h (by decide), fun h => by omega⟩
            · rw [q]
              exact ⟨fun _ => p, fun _ => rfl⟩
            · rw [q]
              exact ⟨fun h => absurd h (by decide), fun h => by omega⟩
          by_cases z : lg_cmp lx70 0 = 0
          · rw [if_pos z]
            unfold F_WR_told_J192
            rw [if_neg d]
            exact key _ _ (Or.inr ⟨dn, by rw [if_pos (hz.mp z)]; exact eu, rfl⟩)
          · rw [if_neg z]
            unfold F_WR_told_J190 F_WR_told_J192
            rw [if_neg d]
            exact key _ _ (Or.inr ⟨dn, by rw [if_neg (fun h => z (hz.mpr h))], rfl⟩)
      have la := V_limb (x2 := x2) (x3 := lx67 / 16) (t0_0 := lx27) (t0_1 := t0_1) (t0_2 := t0_2) (t0_3 := t0_3) (t0_4 := t0_4) (t0_5 := t0_5) (t0_6 := t0_6) hr hx2 (w_dv16 hm hm4)
      generalize F_WR_limb x2 (lx67 / 16) lx27 t0_1 t0_2 t0_3 t0_4 t0_5 t0_6 t1_0 t2_0 = Lm at la ⊢
      exact main _ (w_lbit la hm hml)
