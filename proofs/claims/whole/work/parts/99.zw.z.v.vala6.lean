/-! values, for whole: the class's Floats: a float's parts -/
abbrev yu (x : Int64) : Nat := x.toBitVec.toNat
def yEx (P T u : Nat) : Nat := u / 2 ^ P % (T + 1)
def yFx (P u : Nat) : Nat := u % 2 ^ P
def yNx (P T u : Nat) : Nat := if yEx P T u = 0 then yFx P u else yFx P u + 2 ^ P
def yPx (l : Int) (E : Nat) : Int := ((max E 1 : Nat) : Int) - 1 + l
def ySx (P T u : Nat) : Nat := u / (2 ^ P * (T + 1)) % 2
theorem yu_lt (x : Int64) : yu x < 18446744073709551616 := x.toBitVec.isLt
theorem y_andM {x m : Int64} {k : Nat} (hm : yu m = 2 ^ k - 1) : yu (x &&& m) = yu x % 2 ^ k := by
  show (x &&& m).toBitVec.toNat = _
  rw [Int64.toBitVec_and, BitVec.toNat_and]
  have : m.toBitVec.toNat = 2 ^ k - 1 := hm
  rw [this]
  exact Nat.and_two_pow_sub_one_eq_mod _ _
theorem y_toI {x : Int64} {n : Nat} (h : yu x = n) (hn : n < 9223372036854775808) : x.toInt = (n : Int) := s_ofL h hn
theorem y_andB {x m : Int64} {k : Nat} (hm : yu m = 2 ^ k) : yu (x &&& m) = 2 ^ k * (yu x / 2 ^ k % 2) := by
  show (x &&& m).toBitVec.toNat = _
  rw [Int64.toBitVec_and, BitVec.toNat_and]
  have : m.toBitVec.toNat = 2 ^ k := hm
  rw [this]
  refine Nat.eq_of_testBit_eq (fun i => ?_)
  rw [Nat.testBit_and, Nat.testBit_two_pow]
  by_cases c : k = i
  · subst c
    rw [decide_eq_true rfl, Bool.and_true, Nat.testBit_two_pow_mul, decide_eq_true (Nat.le_refl _), Nat.sub_self, Bool.true_and, Nat.testBit_zero, Nat.testBit_eq_decide_div_mod_eq]
    simp
  · rw [decide_eq_false c, Bool.and_false, Nat.testBit_two_pow_mul]
    by_cases d : k ≤ i
    · rw [decide_eq_true d, Bool.true_and]
      have : yu x / 2 ^ k % 2 < 2 ^ (i - k) := by
        have : 2 ^ 1 ≤ 2 ^ (i - k) := Nat.pow_le_pow_right (by decide) (by omega)
        omega
      exact (Nat.testBit_lt_two_pow this).symm
    · rw [decide_eq_false d, Bool.false_and]
theorem y_exp {A B C : Int32} {P T : Nat} {l : Int} (hF : yF A B C P T l) {x : Int64} : (F_Flo_exponent A B C x).toInt = ((yEx P T (yu x) : Nat) : Int) := by
  unfold F_Flo_exponent yEx
  rcases hF with ⟨rfl, rfl, rfl, rfl, rfl, rfl⟩ | ⟨rfl, rfl, rfl, rfl, rfl, rfl⟩
  · exact fx_e52
  · exact fx_e23
theorem y_fraU {A B C : Int32} {P T : Nat} {l : Int} (hF : yF A B C P T l) {x : Int64} : yu (F_Flo_fraction A B C x) = yFx P (yu x) := by
  unfold F_Flo_fraction yFx
  rcases hF with ⟨rfl, rfl, rfl, rfl, rfl, rfl⟩ | ⟨rfl, rfl, rfl, rfl, rfl, rfl⟩
  · exact y_andM (by decide)
  · exact y_andM (by decide)
theorem yFx_lt {P u : Nat} : yFx P u < 2 ^ P := Nat.mod_lt _ (Nat.pow_pos (by decide))
theorem y_P52 {A B C : Int32} {P T : Nat} {l : Int} (hF : yF A B C P T l) : 2 ^ P ≤ 4503599627370496 := by
  have := hF.n.2.2.2.1
  exact Nat.le_trans (Nat.pow_le_pow_right (by decide) this.2) (by decide)
theorem y_fra {A B C : Int32} {P T : Nat} {l : Int} (hF : yF A B C P T l) {x : Int64} : (F_Flo_fraction A B C x).toInt = ((yFx P (yu x) : Nat) : Int) := by
  have h1 := yFx_lt (P := P) (u := yu x)
  have h2 := y_P52 hF
  exact y_toI (y_fraU hF) (by omega)
theorem y_eqN {a : Int32} {n m : Nat} (h : a.toInt = (n : Int)) {b : Int32} (hb : b.toInt = (m : Int)) : a = b ↔ n = m := by
  constructor
  · intro e
    rw [e, hb] at h
    omega
  · intro e
    exact Int32.toInt_inj.mp (by omega)
theorem y_num {A B C : Int32} {P T : Nat} {l : Int} (hF : yF A B C P T l) {x : Int64} : (F_Flo_number A B C x).toInt = ((yNx P T (yu x) : Nat) : Int) := by
  have h1 := yFx_lt (P := P) (u := yu x)
  have h2 := y_P52 hF
  have hE := y_exp hF (x := x)
  have hf := y_fraU hF (x := x)
  have hz := y_eqN hE (b := 0) (m := 0) rfl
  unfold F_Flo_number yNx
  by_cases c : F_Flo_exponent A B C x = 0
  · rw [if_pos c, if_pos (hz.mp c)]
    exact y_fra hF
  · rw [if_neg c, if_neg (fun h => c (hz.mpr h))]
    have m : yu ((1 : Int64) <<< (A.toInt64 &&& 63)) = 2 ^ P := by
      rcases hF with ⟨rfl, rfl, rfl, rfl, rfl, rfl⟩ | ⟨rfl, rfl, rfl, rfl, rfl, rfl⟩ <;> decide
    refine y_toI ?_ (by omega)
    show (F_Flo_fraction A B C x ||| (1 : Int64) <<< (A.toInt64 &&& 63)).toBitVec.toNat = _
    rw [Int64.toBitVec_or, BitVec.toNat_or]
    have e1 : (F_Flo_fraction A B C x).toBitVec.toNat = yFx P (yu x) := hf
    have e2 : ((1 : Int64) <<< (A.toInt64 &&& 63)).toBitVec.toNat = 2 ^ P := m
    rw [e1, e2, Nat.or_comm]
    have := Nat.two_pow_add_eq_or_of_lt h1 1
    rw [Nat.mul_one] at this
    rw [← this, Nat.add_comm]
theorem y_pow {A B C : Int32} {P T : Nat} {l : Int} (hF : yF A B C P T l) {x : Int64} : (F_Flo_power A B C x).toInt = yPx l (yEx P T (yu x)) := by
  obtain ⟨f1, f2, f3, f4, f5, f6, f7⟩ := hF.n
  have hE := y_exp hF (x := x)
  have hb : yEx P T (yu x) < T + 1 := Nat.mod_lt _ (by omega)
  unfold F_Flo_power yPx
  generalize F_Flo_exponent A B C x = e at hE ⊢
  by_cases c : e < 1
  · have := q_ltI c
    have e1 : (1 : Int32).toInt = 1 := rfl
    rw [if_pos c, q_subI e1 f2 (by omega) (by omega)]
    omega
  · have := q_nltI c
    have e1 : (1 : Int32).toInt = 1 := rfl
    rw [if_neg c, q_subI hE f2 (by omega) (by omega)]
    omega
theorem y_sgb {A B C : Int32} {P T : Nat} {l : Int} (hF : yF A B C P T l) : yu (F_Flo_signBit A B C 1) = 2 ^ P * (T + 1) ∧ F_Flo_signBit A B C 0 = 0 ∧ ∃ k, k ≤ 63 ∧ 2 ^ P * (T + 1) = 2 ^ k := by
  rcases hF with ⟨rfl, rfl, rfl, rfl, rfl, rfl⟩ | ⟨rfl, rfl, rfl, rfl, rfl, rfl⟩
  · exact ⟨by decide, rfl, 63, by decide, by decide⟩
  · exact ⟨by decide, rfl, 31, by decide, by decide⟩
theorem y_lc0 {x : Int64} : lg_cmp x 0 = 0 ↔ yu x = 0 := by
  rw [y_lcE]
  constructor
  · intro h
    have : x = 0 := Int64.toInt_inj.mp h
    rw [this]
    rfl
  · intro h
    have : x = 0 := Int64.toBitVec_inj.mp (BitVec.eq_of_toNat_eq h)
    rw [this]
theorem y_neg {A B C : Int32} {P T : Nat} {l : Int} (hF : yF A B C P T l) {x : Int64} : F_Flo_isNegative A B C x = (if ySx P T (yu x) = 1 then 1 else 0) := by
  obtain ⟨s1, s2, k, s3, s4⟩ := y_sgb hF
  unfold F_Flo_isNegative ySx
  have h := y_andB (x := x) (m := F_Flo_signBit A B C 1) (k := k) (by rw [s1, s4])
  rw [s4]
  have p : 0 < 2 ^ k := Nat.pow_pos (by decide)
  by_cases c : yu x / 2 ^ k % 2 = 1
  · rw [if_pos c, if_neg]
    rw [y_lc0, h, c]
    omega
  · rw [if_neg c, if_pos]
    rw [y_lc0, h, show yu x / 2 ^ k % 2 = 0 by omega]
    rfl
theorem y_fin {A B C : Int32} {P T : Nat} {l : Int} (hF : yF A B C P T l) {x : Int64} : F_Flo_isFinite A B C x = (if yEx P T (yu x) = T then 0 else 1) := by
  have hE := y_exp hF (x := x)
  have hz := y_eqN hE hF.n.2.2.1
  unfold F_Flo_isFinite
  by_cases c : yEx P T (yu x) = T
  · rw [if_pos c, if_pos (hz.mpr c)]
  · rw [if_neg c, if_neg (fun h => c (hz.mp h))]
theorem y_non {A B C : Int32} {P T : Nat} {l : Int} (hF : yF A B C P T l) {x : Int64} : F_Flo_isNoNumber A B C x = (if yEx P T (yu x) = T ∧ yFx P (yu x) ≠ 0 then 1 else 0) := by
  unfold F_Flo_isNoNumber
  rw [y_fin hF]
  by_cases c : yEx P T (yu x) = T
  · rw [if_pos c, if_pos rfl]
    by_cases d : yFx P (yu x) = 0
    · rw [if_pos (y_lc0.mpr (by rw [y_fraU hF]; exact d)), if_neg (fun h => h.2 d)]
    · rw [if_neg (fun h => d (by rw [← y_fraU hF]; exact y_lc0.mp h)), if_pos ⟨c, d⟩]
  · rw [if_neg c, if_neg (by decide), if_neg (fun h => c h.1)]
theorem y_zer {A B C : Int32} {P T : Nat} {l : Int} (hF : yF A B C P T l) {x : Int64} : F_Flo_isZero A B C x = (if yNx P T (yu x) = 0 then 1 else 0) := by
  have hE := y_exp hF (x := x)
  have hz := y_eqN hE (b := 0) (m := 0) rfl
  have p : 0 < 2 ^ P := Nat.pow_pos (by decide)
  unfold F_Flo_isZero yNx
  by_cases c : yEx P T (yu x) = 0
  · rw [if_pos (hz.mpr c), if_pos c]
    by_cases d : yFx P (yu x) = 0
    · rw [if_pos (y_lc0.mpr (by rw [y_fraU hF]; exact d)), if_pos d]
    · rw [if_neg (fun h => d (by rw [← y_fraU hF]; exact y_lc0.mp h)), if_neg d]
  · rw [if_neg (fun h => c (hz.mp h)), if_neg c, if_neg (by omega)]
