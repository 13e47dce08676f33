/-! values, for whole: the reference's shortest figures -/
def yRS (V L H j : Nat) (f g h : Nat → Int32) : Prop := yRw f V ∧ yRw g L ∧ yRw h H ∧ L < V ∧ V < H ∧ 10 ^ j ≤ V ∧ V < 10 ^ (j + 1) ∧ (20 ≤ j ∧ j ≤ 1389) ∧ flW f ∧ flNz f
theorem yRS.v {V L H j : Nat} {f g h : Nat → Int32} (H0 : yRS V L H j f g h) : yRw f V := H0.1
theorem yRS.l {V L H j : Nat} {f g h : Nat → Int32} (H0 : yRS V L H j f g h) : yRw g L := H0.2.1
theorem yRS.h {V L H j : Nat} {f g h : Nat → Int32} (H0 : yRS V L H j f g h) : yRw h H := H0.2.2.1
theorem yRS.lv {V L H j : Nat} {f g h : Nat → Int32} (H0 : yRS V L H j f g h) : L < V := H0.2.2.2.1
theorem yRS.vh {V L H j : Nat} {f g h : Nat → Int32} (H0 : yRS V L H j f g h) : V < H := H0.2.2.2.2.1
theorem yRS.j1 {V L H j : Nat} {f g h : Nat → Int32} (H0 : yRS V L H j f g h) : 10 ^ j ≤ V := H0.2.2.2.2.2.1
theorem yRS.j2 {V L H j : Nat} {f g h : Nat → Int32} (H0 : yRS V L H j f g h) : V < 10 ^ (j + 1) := H0.2.2.2.2.2.2.1
theorem yRS.jb {V L H j : Nat} {f g h : Nat → Int32} (H0 : yRS V L H j f g h) : 20 ≤ j ∧ j ≤ 1389 := H0.2.2.2.2.2.2.2.1
theorem yRS.w {V L H j : Nat} {f g h : Nat → Int32} (H0 : yRS V L H j f g h) : flW f := H0.2.2.2.2.2.2.2.2.1
theorem yRS.nz {V L H j : Nat} {f g h : Nat → Int32} (H0 : yRS V L H j f g h) : flNz f := H0.2.2.2.2.2.2.2.2.2
theorem yRS.lim {V L H j : Nat} {f g h : Nat → Int32} (H0 : yRS V L H j f g h) {k : Nat} (hk : k ≤ 1390) : V / 10 ^ k * 10 ^ k < 10 ^ 1400 ∧ (V / 10 ^ k + 1) * 10 ^ k < 10 ^ 1400 := by
  have v : V < 10 ^ 1390 := Nat.lt_of_lt_of_le H0.j2 (Nat.pow_le_pow_right (by decide) (by have := H0.jb; omega))
  have d := Nat.div_mul_le_self V (10 ^ k)
  have k9 : 10 ^ k ≤ 10 ^ 1390 := Nat.pow_le_pow_right (by decide) hk
  have e : 10 ^ 1400 = 10000000000 * 10 ^ 1390 := by rw [← Nat.pow_add 10 10 1390]
  rw [e, Nat.add_mul, Nat.one_mul]
  generalize 10 ^ 1390 = Z at v k9 ⊢
  omega
theorem yRS.top {V L H j : Nat} {f g h : Nat → Int32} (H0 : yRS V L H j f g h) {t0_0 t0_1 t0_2 t0_3 t0_5 t0_6 t0_8 t0_10 : Int32} {t0_4 t0_7 t0_9 : Int64} : (F_FR_top t0_0 t0_1 t0_2 t0_3 t0_4 t0_5 t0_6 t0_7 t0_8 t0_9 t0_10 f).toInt = (j : Int) := by
  have q := (T_FR_top (t0_0 := t0_0) (t0_1 := t0_1) (t0_2 := t0_2) (t0_3 := t0_3) (t0_4 := t0_4) (t0_5 := t0_5) (t0_6 := t0_6) (t0_7 := t0_7) (t0_8 := t0_8) (t0_9 := t0_9) (t0_10 := t0_10) H0.w H0.nz).2
  obtain ⟨i, h1, h2, h3, h4⟩ := y_topV H0.v q
  rw [h1, y_topU h3 h4 H0.j1 H0.j2]
theorem yRS.dn {V L H j : Nat} {f g h r : Nat → Int32} (H0 : yRS V L H j f g h) {k F' : Nat} {t0_0 t0_1 t0_2 t0_3 t0_5 t0_6 t0_8 t0_10 : Int32} {t0_4 t0_7 t0_9 : Int64} (hr : yRw r (V / 10 ^ k * 10 ^ k)) (hf : t0_4.toInt = (F' : Int)) : (F_FR_readsBack t0_0 t0_1 t0_2 t0_3 t0_4 t0_5 t0_6 t0_7 t0_8 t0_9 t0_10 g h r = 0 ∧ ¬ yDn V L (F' % 2 = 0) k) ∨ (F_FR_readsBack t0_0 t0_1 t0_2 t0_3 t0_4 t0_5 t0_6 t0_7 t0_8 t0_9 t0_10 g h r = 1 ∧ yDn V L (F' % 2 = 0) k) := by
  have d := Nat.div_mul_le_self V (10 ^ k)
  have vh := H0.vh
  rcases V_rb (t0_0 := t0_0) (t0_1 := t0_1) (t0_2 := t0_2) (t0_3 := t0_3) (t0_5 := t0_5) (t0_6 := t0_6) (t0_7 := t0_7) (t0_8 := t0_8) (t0_9 := t0_9) (t0_10 := t0_10) H0.l H0.h hr hf with ⟨a, b⟩ | ⟨a, b, _⟩
  · exact Or.inl ⟨a, fun q => b ⟨q, Or.inl (by omega)⟩⟩
  · exact Or.inr ⟨a, b⟩
theorem yRS.up {V L H j : Nat} {f g h r : Nat → Int32} (H0 : yRS V L H j f g h) {k F' : Nat} {t0_0 t0_1 t0_2 t0_3 t0_5 t0_6 t0_8 t0_10 : Int32} {t0_4 t0_7 t0_9 : Int64} (hr : yRw r ((V / 10 ^ k + 1) * 10 ^ k)) (hf : t0_4.toInt = (F' : Int)) : (F_FR_readsBack t0_0 t0_1 t0_2 t0_3 t0_4 t0_5 t0_6 t0_7 t0_8 t0_9 t0_10 g h r = 0 ∧ ¬ yUp V H (F' % 2 = 0) k) ∨ (F_FR_readsBack t0_0 t0_1 t0_2 t0_3 t0_4 t0_5 t0_6 t0_7 t0_8 t0_9 t0_10 g h r = 1 ∧ yUp V H (F' % 2 = 0) k) := by
  have hp : 0 < 10 ^ k := Nat.pow_pos (by decide)
  have d : V < (V / 10 ^ k + 1) * 10 ^ k := by
    rw [Nat.mul_comm]
    exact Nat.lt_mul_div_succ V hp
  have lv := H0.lv
  rcases V_rb (t0_0 := t0_0) (t0_1 := t0_1) (t0_2 := t0_2) (t0_3 := t0_3) (t0_5 := t0_5) (t0_6 := t0_6) (t0_7 := t0_7) (t0_8 := t0_8) (t0_9 := t0_9) (t0_10 := t0_10) H0.l H0.h hr hf with ⟨a, b⟩ | ⟨a, _, b⟩
  · exact Or.inl ⟨a, fun q => b ⟨Or.inl (by omega), q⟩⟩
  · exact Or.inr ⟨a, b⟩
theorem V_llL {t0_0 : Int32} {t0_1 : Int32} {t0_2 : Int32} {t0_3 : Int32} {t0_4 : Int64} {t0_5 : Int32} {t0_6 : Int32} {t0_7 : Int64} {t0_8 : Int32} {t0_9 : Int64} {t0_10 : Int32} {t1_0 : (Nat → Int32)} {t2_0 : (Nat → Int32)} {t3_0 : (Nat → Int32)} {t4_0 : (Nat → Int32)} {a29 : Int32} {V L H j F' : Nat} (H0 : yRS V L H j t1_0 t2_0 t3_0) (hf : t0_4.toInt = (F' : Int)) (ha : a29.toInt = (j : Int)) : ∀ (n : Nat) (lx35 : Int32) (lx36 : (Nat → Int32)), ∀ (m : Nat), lx35.toInt = (m : Int) → 1 ≤ m → m ≤ 17 → 17 < n + m → (∀ i, 1 ≤ i → i < m → ¬ (yDn V L (F' % 2 = 0) (j + 1 - i) ∨ yUp V H (F' % 2 = 0) (j + 1 - i))) → ∃ m : Nat, (F_FR_leastLength_L7 t0_0 t0_1 t0_2 t0_3 t0_4 t0_5 t0_6 t0_7 t0_8 t0_9 t0_10 t1_0 t2_0 t3_0 t4_0 a29 n lx35 lx36).1.toInt = (m : Int) ∧ (1 ≤ m ∧ m ≤ 17) ∧ (∀ i, 1 ≤ i → i < m → ¬ (yDn V L (F' % 2 = 0) (j + 1 - i) ∨ yUp V H (F' % 2 = 0) (j + 1 - i))) ∧ (m ≤ 16 → (yDn V L (F' % 2 = 0) (j + 1 - m) ∨ yUp V H (F' % 2 = 0) (j + 1 - m))) := by
  have e1 : (1 : Int32).toInt = 1 := rfl
  have e17 : (17 : Int32).toInt = 17 := rfl
  have jb := H0.jb
  intro n
  induction n with
  | zero =>
    intro lx35 lx36 m g1 g2 g3 g4
    omega
  | succ n ih =>
    intro lx35 lx36 m g1 g2 g3 g4 g5
    rw [F_FR_leastLength_L7.eq_2]
    by_cases c : (17 : Int32) ≤ lx35
    · rw [if_pos c]
      have c := q_leI c
      obtain rfl : m = 17 := by omega
      exact ⟨17, rfl, by decide, g5, fun q => absurd q (by decide)⟩
    · rw [if_neg c]
      have c := q_nleI c
      have s1 := q_subI ha g1 (by omega) (by omega)
      have s2 := q_addI s1 e1 (by omega) (by omega)
      have sk : ((a29 - lx35) + 1).toInt = ((j + 1 - m : Nat) : Int) := by
        rw [s2]
        omega
      obtain ⟨l1, l2⟩ := H0.lim (k := j + 1 - m) (by omega)
      have c0 := V_cut (x2 := (a29 - lx35) + 1) (x3 := 0) (t0_0 := t0_0) (t0_1 := t0_1) (t0_2 := t0_2) (t0_3 := t0_3) (t0_4 := t0_4) (t0_5 := t0_5) (t0_6 := t0_6) (t0_7 := t0_7) (t0_8 := t0_8) (t0_9 := t0_9) (t0_10 := t0_10) (t2_0 := lx36) H0.v sk (by omega) l1 (Or.inl ⟨rfl, rfl⟩)
      revert c0
      generalize F_FR_cut ((a29 - lx35) + 1) 0 t0_0 t0_1 t0_2 t0_3 t0_4 t0_5 t0_6 t0_7 t0_8 t0_9 t0_10 t1_0 lx36 = r0
      intro c0
      have c1 := V_cut (x2 := (a29 - lx35) + 1) (x3 := 1) (t0_0 := t0_0) (t0_1 := t0_1) (t0_2 := t0_2) (t0_3 := t0_3) (t0_4 := t0_4) (t0_5 := t0_5) (t0_6 := t0_6) (t0_7 := t0_7) (t0_8 := t0_8) (t0_9 := t0_9) (t0_10 := t0_10) (t2_0 := r0) H0.v sk (by omega) l2 (Or.inr ⟨rfl, rfl⟩)
      revert c1
      generalize F_FR_cut ((a29 - lx35) + 1) 1 t0_0 t0_1 t0_2 t0_3 t0_4 t0_5 t0_6 t0_7 t0_8 t0_9 t0_10 t1_0 r0 = r1
      intro c1
      rcases H0.dn (t0_0 := t0_0) (t0_1 := t0_1) (t0_2 := t0_2) (t0_3 := t0_3) (t0_5 := t0_5) (t0_6 := t0_6) (t0_7 := t0_7) (t0_8 := t0_8) (t0_9 := t0_9) (t0_10 := t0_10) c0 hf with ⟨a, b⟩ | ⟨a, b⟩
      · rw [if_pos a]
        rcases H0.up (t0_0 := t0_0) (t0_1 := t0_1) (t0_2 := t0_2) (t0_3 := t0_3) (t0_5 := t0_5) (t0_6 := t0_6) (t0_7 := t0_7) (t0_8 := t0_8) (t0_9 := t0_9) (t0_10 := t0_10) c1 hf with ⟨a', b'⟩ | ⟨a', b'⟩
        · rw [if_pos a']
          refine ih (lx35 + 1) r1 (m + 1) (q_addI g1 e1 (by omega) (by omega)) (by omega) (by omega) (by omega) (fun i i1 i2 => ?_)
          by_cases q : i = m
          · rw [q]
            exact fun w => by rcases w with w | w; exact b w; exact b' w
          · exact g5 i i1 (by omega)
        · rw [if_neg (by rw [a']; decide)]
          exact ⟨m, g1, ⟨g2, g3⟩, g5, fun _ => Or.inr b'⟩
      · rw [if_neg (by rw [a]; decide)]
        exact ⟨m, g1, ⟨g2, g3⟩, g5, fun _ => Or.inl b⟩
