/-! values, for whole: the class's paper read, eight bytes at once -/
/-- a byte of the paper, 0 outside; n bytes from the i-th on laid over a -/
def yPb (l : List Nat) (i : Int) : Nat := if 0 ≤ i ∧ i < l.length then l.getD i.toNat 0 else 0
def yPo (l : List Nat) (x : Int) (n i : Nat) (a : Int64) : Int64 := match n with
  | 0 => a
  | n + 1 => yPo l x n (i + 1) (a ||| (Int64.ofNat (yPb l (x + i)) <<< ((8 * Int32.ofNat i).toInt64 &&& 63)))
theorem y_b64 {b : Int32} {v : Nat} (h : b.toInt = (v : Int)) (hv : v < 256) : b.toInt64 = Int64.ofNat v := by
  have key : ∀ v : Nat, v < 256 → (Int64.ofNat v).toInt = (v : Int) := by decide +kernel
  exact Int64.toInt_inj.mp (by rw [Int32.toInt_toInt64, h, key v hv])
theorem y_s64 {x i : Int32} {k : Nat} (h : i.toInt = (k : Int)) : (x.toInt64 + i.toInt64).toInt = x.toInt + k := by
  have a := q_lo32 (x := x)
  have b := q_hi32 (x := x)
  have c := q_hi32 (x := i)
  exact q_addL (Int32.toInt_toInt64 x) (by rw [Int32.toInt_toInt64, h]) (by omega) (by omega)
theorem V_ppL {x2 : Int32} {t0_0 : Int32} {t1_0 : (Nat → Int64)} {l : List Nat} (h : yPa t0_0 t1_0 l) (hl : l.length ≤ 11008) : ∀ (n : Nat) (lx8 : Int32) (lx9 : Int64), ∀ (i : Nat), lx8.toInt = (i : Int) → i ≤ 8 → 8 - i < n → (F_NH_paperAt_L5 x2 t0_0 t1_0 n lx8 lx9) = yPo l x2.toInt (8 - i) i lx9 := by
  have e1 : (1 : Int32).toInt = 1 := rfl
  have e8 : (8 : Int32).toInt = 8 := rfl
  intro n
  induction n with
  | zero =>
    intro lx8 lx9 i g1 g2 g3
    omega
  | succ n ih =>
    intro lx8 lx9 i g1 g2 g3
    rw [F_NH_paperAt_L5.eq_2]
    by_cases c : 8 ≤ lx8
    · rw [if_pos c]
      have c := q_leI c
      rw [show 8 - i = 0 from by omega]
      rfl
    · rw [if_neg c]
      have c := q_nleI c
      have p : F_She_at_p 11008 1376 1000000 (x2.toInt64 + lx8.toInt64) t0_0 t1_0 = F_She_at 11008 1376 1000000 (x2.toInt64 + lx8.toInt64) t0_0 t1_0 := by
        unfold F_She_at_p F_She_at
        rfl
      have at' := V_She_at (N := 1376) (K := 1000000) (t1_0 := t1_0) (r := 11008) (R := 11008) h.1 rfl hl (y_s64 (x := x2) g1)
      have by' : (F_She_at 11008 1376 1000000 (x2.toInt64 + lx8.toInt64) t0_0 t1_0).toInt = ((yPb l (x2.toInt + i) : Nat) : Int) ∧ yPb l (x2.toInt + i) < 256 := by
        rw [at']
        unfold yPb
        by_cases k : 0 ≤ x2.toInt + (i : Int) ∧ x2.toInt + (i : Int) < (l.length : Int)
        · rw [if_pos k, if_pos k]
          have e := h.2 (x2.toInt + (i : Int)).toNat (by omega) (by omega)
          rw [← e]
          exact ⟨rfl, Nat.mod_lt _ (by decide)⟩
        · rw [if_neg k, if_neg k]
          exact ⟨rfl, by decide⟩
      rw [p, y_b64 by'.1 by'.2, ih (lx8 + 1) _ (i + 1) (q_addI g1 e1 (by omega) (by omega)) (by omega) (by omega), show 8 - i = (8 - (i + 1)) + 1 from by omega, v_amt g1]
      rfl
theorem V_paper {x2 : Int32} {t0_0 : Int32} {t1_0 : (Nat → Int64)} {l : List Nat} (h : yPa t0_0 t1_0 l) (hl : l.length ≤ 11008) : (F_NH_paperAt x2 t0_0 t1_0) = yPo l x2.toInt 8 0 0 := by
  unfold F_NH_paperAt
  exact V_ppL h hl ((8 - (0 : Int32).toInt).toNat + 1) 0 0 0 rfl (by omega) (by decide)
