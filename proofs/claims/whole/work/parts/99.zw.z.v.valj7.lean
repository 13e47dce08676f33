/-! values, for whole: the printer widens -/
theorem V_rgD {n j : Nat} {f : Nat → Nat} (h : j < n) : ((List.range n).map f).getD j 0 = f j := by
  rw [List.getD_eq_getElem?_getD, List.getElem?_map, List.getElem?_range h]
  rfl
theorem V_rgS {R n : Nat} {s : Int32} {c : Nat → Int64} {f : Nat → Nat} : yShl R s c ((List.range n).map f) ↔ s.toInt = (n : Int) ∧ ∀ i, i < n → i < R → ySh c i = f i := by
  unfold yShl
  rw [List.length_map, List.length_range]
  constructor
  · intro h
    exact ⟨h.1, fun i hi hr => by rw [h.2 i hi hr, V_rgD hi]⟩
  · intro h
    exact ⟨h.1, fun i hi hr => by rw [h.2 i hi hr, V_rgD hi]⟩
theorem V_enL {R : Int32} {N : Int32} {K : Int32} {x2 : Int32} {t0_0 : Int32} {t1_0 : (Nat → Int64)} {a L : Nat} {g : Nat → Nat} (hR : R = 11008) (hL : t0_0.toInt = (L : Int)) (hL2 : L ≤ 11008) : ∀ (n : Nat) (lx7 : Int32) (lx8 : (Nat → Int64)), ∀ i : Nat, lx7.toInt = (i : Int) → a ≤ i → i ≤ L → L < n + i → (∀ j, j < L → ySh lx8 j = if a ≤ j ∧ j < i then zUc (g j) else g j) → ∀ j, j < L → ySh (F_Pri_enlarge_L2 R N K x2 t0_0 t1_0 n lx7 lx8) j = if a ≤ j then zUc (g j) else g j := by
  have e97 : (97 : Int32).toInt = 97 := rfl
  have e122 : (122 : Int32).toInt = 122 := rfl
  have e32 : (32 : Int32).toInt = 32 := rfl
  subst hR
  intro n
  induction n with
  | zero =>
    intro _ _ i _ _ q1 q2
    omega
  | succ n ih =>
    intro lx7 lx8 i h1 h2 h3 h4 h5
    unfold F_Pri_enlarge_L2
    by_cases d : t0_0 ≤ lx7
    · rw [if_pos d]
      have d' := q_leI d
      intro j hj
      rw [h5 j hj]
      by_cases w : a ≤ j
      · rw [if_pos ⟨w, by omega⟩, if_pos w]
      · rw [if_neg (fun v => w v.1), if_neg w]
    · rw [if_neg d]
      have d' := q_nleI d
      have sh : yShl 11008 t0_0 lx8 ((List.range L).map (fun j => if a ≤ j ∧ j < i then zUc (g j) else g j)) := V_rgS.mpr ⟨hL, fun j hj _ => h5 j hj⟩
      obtain ⟨v1, v2⟩ := y_shlV (R := 11008) (R32 := 11008) (N := N) (K := K) (x := lx7) (i := i) rfl sh (by rw [List.length_map, List.length_range]; exact hL2) h1 (by rw [List.length_map, List.length_range]; omega)
      rw [V_rgD (by omega), if_neg (by omega)] at v1 v2
      have nx : (lx7 + 1).toInt = ((i + 1 : Nat) : Int) := by rw [q_addI (y := 1) h1 rfl (by omega) (by omega)]; omega
      have same : zUc (g i) = g i → ∀ j, j < L → ySh lx8 j = if a ≤ j ∧ j < i + 1 then zUc (g j) else g j := by
        intro z j hj
        rw [h5 j hj]
        by_cases e : j = i
        · rw [if_neg (by omega), if_pos (by omega), e, z]
        · by_cases w : a ≤ j ∧ j < i
          · rw [if_pos w, if_pos (by omega)]
          · rw [if_neg w, if_neg (by omega)]
      by_cases c1 : F_She_at_p 11008 N K lx7.toInt64 t0_0 lx8 < 97
      · rw [if_pos c1]
        have c' := q_ltI c1
        exact ih _ _ (i + 1) nx (by omega) (by omega) (by omega) (same (by unfold zUc; rw [if_pos (by omega)]))
      · rw [if_neg c1]
        have c' := q_nltI c1
        by_cases c2 : 122 < F_She_at_p 11008 N K lx7.toInt64 t0_0 lx8
        · rw [if_pos c2]
          have c2' := q_ltI c2
          exact ih _ _ (i + 1) nx (by omega) (by omega) (by omega) (same (by unfold zUc; rw [if_neg (by omega), if_pos (by omega)]))
        · rw [if_neg c2]
          have c2' := q_nltI c2
          have up : zUc (g i) = g i - 32 := by unfold zUc; rw [if_neg (by omega), if_neg (by omega)]
          have vv : (F_She_at_p 11008 N K lx7.toInt64 t0_0 lx8 - 32).toInt = ((zUc (g i) : Nat) : Int) := by
            rw [q_subI v1 e32 (by omega) (by omega), up]
            omega
          have rp := V_She_rep (R := 11008) (N := N) (K := K) (t1_0 := lx8) (r := 11008) hL rfl hL2 h1 (show i < L by omega) vv (by omega)
          rw [← y_reppE] at rp
          refine ih _ _ (i + 1) nx (by omega) (by omega) (by omega) (fun j hj => ?_)
          rw [rp j]
          by_cases e : j = i
          · rw [if_pos e, if_pos (by omega), e]
          · rw [if_neg e, h5 j hj]
            by_cases w : a ≤ j ∧ j < i
            · rw [if_pos w, if_pos (by omega)]
            · rw [if_neg w, if_neg (by omega)]
theorem V_enl {R : Int32} {N : Int32} {K : Int32} {x2 : Int32} {t0_0 : Int32} {t1_0 : (Nat → Int64)} {o w : List Nat} (hR : R = 11008) (hx : x2.toInt = (o.length : Int)) (hl : yShl 11008 t0_0 t1_0 (o ++ w)) (hL : (o ++ w).length ≤ 11008) : yShl 11008 t0_0 (F_Pri_enlarge R N K x2 t0_0 t1_0) (o ++ w.map zUc) := by
  have ll : (o ++ w).length = o.length + w.length := List.length_append
  have k := V_enL (N := N) (K := K) (x2 := x2) (t1_0 := t1_0) (a := o.length) (g := fun j => (o ++ w).getD j 0) hR hl.1 hL ((1000000 - x2.toInt).toNat + 1) x2 t1_0 o.length hx (Nat.le_refl _) (by omega) (by rw [hx]; omega) (fun j hj => by rw [if_neg (by omega)]; exact hl.2 j hj (by omega))
  unfold F_Pri_enlarge
  refine ⟨by rw [hl.1, ll, List.length_append, List.length_map], fun i hi _ => ?_⟩
  rw [List.length_append, List.length_map] at hi
  rw [k i (by omega)]
  by_cases c : o.length ≤ i
  · rw [if_pos c]
    simp only [List.getD_eq_getElem?_getD]
    rw [List.getElem?_append_right c, List.getElem?_append_right c, List.getElem?_map, List.getElem?_eq_getElem (show i - o.length < w.length by omega)]
    rfl
  · rw [if_neg c]
    simp only [List.getD_eq_getElem?_getD]
    rw [List.getElem?_append_left (by omega), List.getElem?_append_left (by omega)]
theorem V_sb2 {m : List Nat} {f : Nat} : ySb m f m.length = m.drop f := by
  unfold ySb
  rw [List.take_of_length_le (by rw [List.length_drop]; omega)]
theorem V_sb1 {m : List Nat} {f : Nat} : ySb m 0 f = m.take f := by
  unfold ySb
  rw [List.drop_zero, Nat.sub_zero]
theorem V_widC {t0_0 : Int32} {t0_1 : Int32} {t0_2 : Int32} {t0_3 : Int32} {t1_0 : Int32} {t2_0 : (Nat → Int64)} {t3_0 : Int32} {t3_1 : Int32} {t3_2 : Int32} {t3_3 : Int32} {t3_4 : Int32} {t3_5 : Int32} {t3_6 : Int32} {t4_0 : Int32} {t5_0 : (Nat → Int64)} {out t : List Nat} {f : Nat} {W : Int} {pd : Int32} (hp : yShl 11008 t4_0 t5_0 out) (hb : yShl 4104 t1_0 t2_0 t) (hW : t3_2.toInt = W) (hW2 : -1 ≤ W ∧ W ≤ 9999) (hl : out.length + t.length ≤ 4096) (hl2 : (out.length : Int) + W ≤ 4096) (hfr : (t0_1 = -1 ∧ pd = 0) ∨ (t0_1.toInt = (f : Int) ∧ f ≤ t.length ∧ pd = (if t3_1 &&& 8 = 0 then 0 else 1) ∧ (t3_1 &&& 8 ≠ 0 → t3_1 &&& 1 = 0))) : yShl 11008 (F_Pri_widen t0_0 t0_1 t0_2 t0_3 t1_0 t2_0 t3_0 t3_1 t3_2 t3_3 t3_4 t3_5 t3_6 t4_0 t5_0).1 (F_Pri_widen t0_0 t0_1 t0_2 t0_3 t1_0 t2_0 t3_0 t3_1 t3_2 t3_3 t3_4 t3_5 t3_6 t4_0 t5_0).2 (out ++ zUp t3_4 (zWid W t3_1 pd f t)) := by
  have h1 := hb.1
  have a30 := q_subI hW h1 (by omega) (by omega)
  obtain ⟨k, hk⟩ : ∃ k : Nat, k = (W - t.length).toNat := ⟨_, rfl⟩
  have k1 : k = (t3_2 - t1_0).toInt.toNat := by rw [a30]; exact hk
  have k2 : k ≤ 10000 := by omega
  have k3 : out.length + t.length + k ≤ 8192 := by omega
  have fin : ∀ (s : Int32) (c : Nat → Int64), yShl 11008 s c (out ++ zWid W t3_1 pd f t) → yShl 11008 (if F_Dir_isLarge t3_0 t3_1 t3_2 t3_3 t3_4 t3_5 t3_6 = 0 then (s, c) else (s, F_Pri_enlarge 11008 1376 1000000 t4_0 s c)).1 (if F_Dir_isLarge t3_0 t3_1 t3_2 t3_3 t3_4 t3_5 t3_6 = 0 then (s, c) else (s, F_Pri_enlarge 11008 1376 1000000 t4_0 s c)).2 (out ++ zUp t3_4 (zWid W t3_1 pd f t)) := by
    intro s c h
    have zl := zWid_l (W := W) (fl := t3_1) (pd := pd) (f := f) (t := t)
    unfold F_Dir_isLarge zUp
    by_cases a : t3_4 < 65
    · rw [if_pos a, if_pos (rfl : (0 : Int32) = 0), if_pos a]
      exact h
    · rw [if_neg a, if_neg a]
      by_cases b : 90 < t3_4
      · rw [if_pos b, if_pos (rfl : (0 : Int32) = 0), if_pos b]
        exact h
      · rw [if_neg b, if_neg (show ¬ (1 : Int32) = 0 by decide), if_neg b]
        exact V_enl (N := 1376) (K := 1000000) rfl hp.1 h (by rw [List.length_append, zl]; omega)
  have J : t3_1 &&& 1 = 0 ∧ pd = 0 ∨ ¬ t3_1 &&& 1 = 0 → yShl 11008 (F_Pri_widen_J83 t0_0 t0_1 t0_2 t0_3 t1_0 t2_0 t3_0 t3_1 t3_2 t3_3 t3_4 t3_5 t3_6 t4_0 t5_0 (t3_2 - t1_0)).1 (F_Pri_widen_J83 t0_0 t0_1 t0_2 t0_3 t1_0 t2_0 t3_0 t3_1 t3_2 t3_3 t3_4 t3_5 t3_6 t4_0 t5_0 (t3_2 - t1_0)).2 (out ++ zUp t3_4 (zWid W t3_1 pd f t)) := by
    intro hj
    unfold F_Pri_widen_J83
    rw [Z_has0]
    rcases hj with ⟨g, p0⟩ | g
    · rw [if_pos g, if_pos (rfl : (0 : Int32) = 0)]
      have p := V_adt (R := 11008) (N := 1376) (K := 1000000) (r := 11008) (x2 := 32) (x3 := t3_2 - t1_0) (v := 32) rfl (by decide) rfl (by decide) k1 k2 hp (by omega)
      revert p
      generalize F_She_addTimes_p 11008 1376 1000000 32 (t3_2 - t1_0) t4_0 t5_0 = q
      intro p
      unfold F_Pri_widen_c124
      have w := V_cpy (R := 11008) (N := 1376) (K := 1000000) (R2 := 4104) (N2 := 513) (K2 := 1000000) (r := 11008) (r2 := 4104) (x3 := 0) (x4 := t1_0) (a := 0) (b := t.length) rfl (by decide) rfl p hb (by omega) rfl h1 (by omega) (Nat.le_refl _) (by rw [List.length_append, List.length_replicate]; omega)
      rw [V_sbA, List.append_assoc] at w
      revert w
      generalize F_Pri_copyInto 11008 1376 1000000 4104 513 1000000 0 t1_0 q.1 q.2 t1_0 t2_0 = r
      intro w
      have e : zWid W t3_1 pd f t = List.replicate k 32 ++ t := by
        unfold zWid
        rw [if_pos g, if_pos p0, ← hk]
      rw [← e] at w
      unfold F_Pri_widen_c140
      exact fin _ _ w
    · rw [if_neg g, if_neg (show ¬ (1 : Int32) = 0 by decide)]
      have p := V_cpy (R := 11008) (N := 1376) (K := 1000000) (R2 := 4104) (N2 := 513) (K2 := 1000000) (r := 11008) (r2 := 4104) (x3 := 0) (x4 := t1_0) (a := 0) (b := t.length) rfl (by decide) rfl hp hb (by omega) rfl h1 (by omega) (Nat.le_refl _) (by omega)
      rw [V_sbA] at p
      revert p
      generalize F_Pri_copyInto 11008 1376 1000000 4104 513 1000000 0 t1_0 t4_0 t5_0 t1_0 t2_0 = q
      intro p
      unfold F_Pri_widen_c107
      have w := V_adt (R := 11008) (N := 1376) (K := 1000000) (r := 11008) (x2 := 32) (x3 := t3_2 - t1_0) (v := 32) rfl (by decide) rfl (by decide) k1 k2 p (by rw [List.length_append]; omega)
      rw [List.append_assoc] at w
      revert w
      generalize F_She_addTimes_p 11008 1376 1000000 32 (t3_2 - t1_0) q.1 q.2 = r
      intro w
      have e : zWid W t3_1 pd f t = t ++ List.replicate k 32 := by
        unfold zWid
        rw [if_neg g, ← hk]
      rw [← e] at w
      unfold F_Pri_widen_c114
      exact fin _ _ w
  have J2 : pd = 0 → t3_1 &&& 1 = 0 ∧ pd = 0 ∨ ¬ t3_1 &&& 1 = 0 := by
    intro p0
    by_cases g : t3_1 &&& 1 = 0
    · exact Or.inl ⟨g, p0⟩
    · exact Or.inr g
  unfold F_Pri_widen
  rw [Z_has0]
  by_cases h8 : t3_1 &&& 8 = 0
  · rw [if_pos h8, if_pos (rfl : (0 : Int32) = 0)]
    exact J (J2 (hfr.elim (fun w => w.2) (fun w => by rw [w.2.2.1, if_pos h8])))
  · rw [if_neg h8, if_neg (show ¬ (1 : Int32) = 0 by decide)]
    by_cases m : t0_1 = -1
    · rw [if_pos m]
      refine J (J2 (hfr.elim (fun w => w.2) (fun w => ?_)))
      have := w.1
      rw [m, show (-1 : Int32).toInt = -1 from rfl] at this
      omega
    · rw [if_neg m]
      rcases hfr with w | ⟨f1, f2, f3, f4⟩
      · exact absurd w.1 m
      · rw [if_neg h8] at f3
        have g := f4 h8
        have p := V_cpy (R := 11008) (N := 1376) (K := 1000000) (R2 := 4104) (N2 := 513) (K2 := 1000000) (r := 11008) (r2 := 4104) (x3 := 0) (x4 := t0_1) (a := 0) (b := f) rfl (by decide) rfl hp hb (by omega) rfl f1 (by omega) f2 (by omega)
        rw [V_sb1] at p
        revert p
        generalize F_Pri_copyInto 11008 1376 1000000 4104 513 1000000 0 t0_1 t4_0 t5_0 t1_0 t2_0 = q
        intro p
        unfold F_Pri_widen_c51
        have p2 := V_adt (R := 11008) (N := 1376) (K := 1000000) (r := 11008) (x2 := 48) (x3 := t3_2 - t1_0) (v := 48) rfl (by decide) rfl (by decide) k1 k2 p (by rw [List.length_append, List.length_take]; omega)
        revert p2
        generalize F_She_addTimes_p 11008 1376 1000000 48 (t3_2 - t1_0) q.1 q.2 = q2
        intro p2
        unfold F_Pri_widen_c58
        have w := V_cpy (R := 11008) (N := 1376) (K := 1000000) (R2 := 4104) (N2 := 513) (K2 := 1000000) (r := 11008) (r2 := 4104) (x3 := t0_1) (x4 := t1_0) (a := f) (b := t.length) rfl (by decide) rfl p2 hb (by omega) f1 h1 f2 (Nat.le_refl _) (by rw [List.length_append, List.length_append, List.length_take, List.length_replicate]; omega)
        rw [V_sb2, List.append_assoc, List.append_assoc] at w
        revert w
        generalize F_Pri_copyInto 11008 1376 1000000 4104 513 1000000 t0_1 t1_0 q2.1 q2.2 t1_0 t2_0 = r
        intro w
        have e : zWid W t3_1 pd f t = t.take f ++ (List.replicate k 48 ++ t.drop f) := by
          unfold zWid
          rw [if_pos g, if_neg (show ¬ pd = 0 by rw [f3]; decide), ← hk]
        rw [← e] at w
        unfold F_Pri_widen_c77
        exact fin _ _ w

