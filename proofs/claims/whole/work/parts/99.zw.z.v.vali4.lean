/-! values, for whole: a directive's piece, and the reference's -/
def zBdT (sc fl : Int32) (pr : Int) (a : yA) (t : List Nat) (f : Nat) (pd : Int32) : Prop := (sc = 37 ∧ t = [37] ∧ f = 0 ∧ pd = 0) ∨ (sc = 110 ∧ t = [10] ∧ f = 0 ∧ pd = 0) ∨ (sc = 98 ∧ t = (if a.1 = 0 ∨ (a.1 = 1 ∧ a.2.1 = 0) then zFal else zTru) ∧ f = 0 ∧ pd = 0) ∨ (¬ (sc = 37 ∨ sc = 110 ∨ sc = 98) ∧ a.1 = 0 ∧ t = zNul ∧ f = 0 ∧ pd = 0) ∨ (sc = 115 ∧ a.1 ≠ 0 ∧ zStr a t ∧ f = 0 ∧ pd = 0) ∨ (sc = 99 ∧ a.1 ≠ 0 ∧ t = [a.2.1.toInt.toNat] ∧ f = 0 ∧ pd = 0) ∨ ((sc = 111 ∨ sc = 120 ∨ sc = 100 ∨ sc = 102 ∨ sc = 101 ∨ sc = 103) ∧ a.1 ≠ 0 ∧ (∃ dg, yDt a.2.1.toInt.natAbs dg ∧ zNuT sc a.2.1 a.2.2.1 fl (if pr < 0 then 6 else pr.toNat) dg t f) ∧ pd = if fl &&& 8 = 0 then 0 else 1)
def zCut (sc : Int32) (pr : Int) (t : List Nat) : List Nat := if sc = 98 ∨ sc = 115 then (if pr < 0 then t else t.take pr.toNat) else t
def zUc (x : Nat) : Nat := if x < 97 then x else if 122 < x then x else x - 32
def zUp (cv : Int32) (t : List Nat) : List Nat := if cv < 65 then t else if 90 < cv then t else t.map zUc
/-- the piece of a directive -/
def zPc (cv fl : Int32) (W pr : Int) (a : yA) (q : List Nat) : Prop := ∃ t f pd, zBdT (zSm cv) fl pr a t f pd ∧ q = zUp cv (zWid W fl pd f (zCut (zSm cv) pr t))
theorem zBdT_U {sc fl : Int32} {pr : Int} {a : yA} {t t2 : List Nat} {f f2 : Nat} {pd pd2 : Int32} (h : zBdT sc fl pr a t f pd) (g : zBdT sc fl pr a t2 f2 pd2) : t = t2 ∧ f = f2 ∧ pd = pd2 := by
  have two : ∀ x : List Nat, (t = x ∧ f = 0 ∧ pd = 0) → (t2 = x ∧ f2 = 0 ∧ pd2 = 0) → t = t2 ∧ f = f2 ∧ pd = pd2 := fun x a b => ⟨a.1.trans b.1.symm, a.2.1.trans b.2.1.symm, a.2.2.trans b.2.2.symm⟩
  have n1 : ∀ {x y : Int32}, sc = x → sc = y → x ≠ y → False := fun p q r => r (p.symm.trans q)
  rcases h with ⟨h1, h⟩ | ⟨h1, h⟩ | ⟨h1, h⟩ | ⟨h1, h0, h⟩ | ⟨h1, h0, h2, h⟩ | ⟨h1, h0, h⟩ | ⟨h1, h0, ⟨d, h2, h3⟩, h4⟩ <;> rcases g with ⟨g1, g⟩ | ⟨g1, g⟩ | ⟨g1, g⟩ | ⟨g1, g0, g⟩ | ⟨g1, g0, g2, g⟩ | ⟨g1, g0, g⟩ | ⟨g1, g0, ⟨d2, g2, g3⟩, g4⟩
  all_goals first
    | exact two _ h g
    | exact ⟨zStr_U h2 g2, h.1.trans g.1.symm, h.2.trans g.2.symm⟩
    | exact absurd h0 g0
    | exact absurd g0 h0
    | (rw [yDt_U g2 h2] at g3; exact ⟨(zNuT_U h3 g3).1, (zNuT_U h3 g3).2, h4.trans g4.symm⟩)
    | (exfalso; rw [h1] at g1; revert g1; decide)
    | (exfalso; rw [g1] at h1; revert h1; decide)
theorem zPc_U {cv fl : Int32} {W pr : Int} {a : yA} {q r : List Nat} (h : zPc cv fl W pr a q) (g : zPc cv fl W pr a r) : q = r := by
  obtain ⟨t, f, pd, h1, h2⟩ := h
  obtain ⟨t', f', pd', g1, g2⟩ := g
  obtain ⟨e1, e2, e3⟩ := zBdT_U h1 g1
  rw [h2, g2, e1, e2, e3]
theorem zWid_fl {W : Int} {fl fl2 pd : Int32} {f : Nat} {t : List Nat} (h : fl &&& 1 = fl2 &&& 1) : zWid W fl pd f t = zWid W fl2 pd f t := by
  unfold zWid
  rw [h]
theorem zWid_l {W : Int} {fl pd : Int32} {f : Nat} {t : List Nat} : (zWid W fl pd f t).length = t.length + (W - t.length).toNat := by
  unfold zWid
  by_cases a : fl &&& 1 = 0
  · rw [if_pos a]
    by_cases b : pd = 0
    · rw [if_pos b, List.length_append, List.length_replicate, Nat.add_comm]
    · rw [if_neg b, List.length_append, List.length_append, List.length_replicate, List.length_take, List.length_drop]
      omega
  · rw [if_neg a, List.length_append, List.length_replicate]
theorem yRt_tk {n m : Int32} {t : Nat → Int32} {l : List Nat} {k : Nat} (h : yRt n t l) (hm : m.toInt = (k : Int)) (hk : k ≤ l.length) : yRt m t (l.take k) := by
  refine ⟨by rw [hm, List.length_take, Nat.min_eq_left hk], fun i hi => ?_⟩
  rw [List.length_take] at hi
  rw [h.2 i (by omega), List.getD_eq_getElem?_getD, List.getD_eq_getElem?_getD, List.getElem?_take, if_pos (by omega)]
theorem Z_mkU {t0_0 : Int32} {t0_1 : Int32} {t0_2 : Int32} {t0_3 : Int32} {t0_4 : Int32} {t0_5 : Int32} {t0_6 : Int32} {t0_7 : Int32} {t0_8 : Int32} {t0_9 : Int32} {t0_10 : Int32} {t0_11 : Int32} {t0_12 : Int32} {t0_13 : Int32} {t0_14 : Int32} {t0_15 : Int32} {t0_16 : Int32} {t0_17 : Int32} {t0_18 : Int32} {t0_19 : Int32} {t0_20 : Int32} {t0_21 : Int32} {t1_0 : (Nat → Int32)} {t2_0 : (Nat → Int32)} {t3_0 : (Nat → Int64)} {t4_0 : (Nat → Int32)} {t5_0 : (Nat → Int32)} {t6_0 : (Nat → Int32)} {a48 : Int32} {lx59 : Int32} {lx75 : Int32} {lx76 : Int32} {lx77 : Int32} {lx78 : Int32} {lx79 : Int32} {lx80 : Int32} {lx81 : (Nat → Int32)} {lx82 : (Nat → Int32)} {lx99 : Int32} {p123 : (Int32 × (Nat → Int32))} {y118 : Int32} {L : Nat} {g : Nat → Nat} (hL : y118.toInt = (L : Int)) (hL2 : L < 100000) : ∀ (n : Nat) (lx139 : Int32) (lx140 : (Nat → Int32)), ∀ a : Nat, lx139.toInt = (a : Int) → a ≤ L → L < n + a → (∀ i, i < L → (lx140 i).toInt = if i < a then (zUc (g i) : Int) else (g i : Int)) → (F_VR_make_L262 t0_0 t0_1 t0_2 t0_3 t0_4 t0_5 t0_6 t0_7 t0_8 t0_9 t0_10 t0_11 t0_12 t0_13 t0_14 t0_15 t0_16 t0_17 t0_18 t0_19 t0_20 t0_21 t1_0 t2_0 t3_0 t4_0 t5_0 t6_0 a48 lx59 lx75 lx76 lx77 lx78 lx79 lx80 lx81 lx82 lx99 p123 y118 n lx139 lx140).2.1 = y118 ∧ ∀ i, i < L → ((F_VR_make_L262 t0_0 t0_1 t0_2 t0_3 t0_4 t0_5 t0_6 t0_7 t0_8 t0_9 t0_10 t0_11 t0_12 t0_13 t0_14 t0_15 t0_16 t0_17 t0_18 t0_19 t0_20 t0_21 t1_0 t2_0 t3_0 t4_0 t5_0 t6_0 a48 lx59 lx75 lx76 lx77 lx78 lx79 lx80 lx81 lx82 lx99 p123 y118 n lx139 lx140).2.2.2.2.2.2.1 i).toInt = (zUc (g i) : Int) := by
  have e97 : (97 : Int32).toInt = 97 := rfl
  have e65 : (65 : Int32).toInt = 65 := rfl
  have e122 : (122 : Int32).toInt = 122 := rfl
  intro n
  induction n with
  | zero =>
    intro _ _ a _ q1 q2
    omega
  | succ n ih =>
    intro lx139 lx140 a h1 h2 h3 h4
    unfold F_VR_make_L262
    by_cases d : y118 ≤ lx139
    · rw [if_pos d]
      have d' := q_leI d
      refine ⟨rfl, fun i hi => ?_⟩
      show (lx140 i).toInt = _
      rw [h4 i hi, if_pos (by omega)]
    · rw [if_neg d]
      have d' := q_nleI d
      have i1 : lx139.toNatClampNeg = a := by show lx139.toInt.toNat = _; omega
      rw [i1]
      have va := h4 a (by omega)
      rw [if_neg (by omega)] at va
      have go : ∀ v : Int32, v.toInt = (zUc (g a) : Int) → ∀ i, i < L → (upd lx140 a v i).toInt = if i < a + 1 then (zUc (g i) : Int) else (g i : Int) := by
        intro v hv i hi
        unfold upd
        by_cases e : i = a
        · rw [if_pos e, if_pos (by omega), hv, e]
        · rw [if_neg e, h4 i hi]
          by_cases w : i < a
          · rw [if_pos w, if_pos (by omega)]
          · rw [if_neg w, if_neg (by omega)]
      have nx : (lx139 + 1).toInt = ((a + 1 : Nat) : Int) := by rw [q_addI (y := 1) h1 rfl (by omega) (by omega)]; omega
      by_cases c1 : lx140 a < 97
      · rw [if_pos c1]
        have c' := q_ltI c1
        refine ih _ _ (a + 1) nx (by omega) (by omega) (go _ ?_)
        unfold zUc
        rw [if_pos (by omega), va]
      · rw [if_neg c1]
        have c' := q_nltI c1
        by_cases c2 : 122 < lx140 a
        · rw [if_pos c2]
          have c2' := q_ltI c2
          refine ih _ _ (a + 1) nx (by omega) (by omega) (go _ ?_)
          unfold zUc
          rw [if_neg (by omega), if_pos (by omega), va]
        · rw [if_neg c2]
          have c2' := q_nltI c2
          refine ih _ _ (a + 1) nx (by omega) (by omega) (go _ ?_)
          unfold zUc
          rw [if_neg (by omega), if_neg (by omega), q_addI (q_subI va e97 (by omega) (by omega)) e65 (by omega) (by omega)]
          omega
theorem Z_m238 {t0_0 : Int32} {t0_1 : Int32} {t0_2 : Int32} {t0_3 : Int32} {t0_4 : Int32} {t0_5 : Int32} {t0_6 : Int32} {t0_7 : Int32} {t0_8 : Int32} {t0_9 : Int32} {t0_10 : Int32} {t0_11 : Int32} {t0_12 : Int32} {t0_13 : Int32} {t0_14 : Int32} {t0_15 : Int32} {t0_16 : Int32} {t0_17 : Int32} {t0_18 : Int32} {t0_19 : Int32} {t0_20 : Int32} {t0_21 : Int32} {t1_0 : (Nat → Int32)} {t2_0 : (Nat → Int32)} {t3_0 : (Nat → Int64)} {t4_0 : (Nat → Int32)} {t5_0 : (Nat → Int32)} {t6_0 : (Nat → Int32)} {a48 : Int32} {lx59 : Int32} {lx75 : Int32} {lx76 : Int32} {lx77 : Int32} {lx78 : Int32} {lx79 : Int32} {lx80 : Int32} {lx81 : (Nat → Int32)} {lx82 : (Nat → Int32)} {lx99 : Int32} {t : List Nat} {W : Int} {f : Nat} (h11 : t0_11.toInt = W) (hW : -1 ≤ W ∧ W ≤ 9999) (h99 : yRt lx99 lx81 t) (ht : t.length ≤ 20000) (h77 : lx77.toInt = (f : Int)) (hf : f ≤ t.length) : yRt (F_VR_make_J238 t0_0 t0_1 t0_2 t0_3 t0_4 t0_5 t0_6 t0_7 t0_8 t0_9 t0_10 t0_11 t0_12 t0_13 t0_14 t0_15 t0_16 t0_17 t0_18 t0_19 t0_20 t0_21 t1_0 t2_0 t3_0 t4_0 t5_0 t6_0 a48 lx59 lx75 lx76 lx77 lx78 lx79 lx80 lx81 lx82 lx99).2.1 (F_VR_make_J238 t0_0 t0_1 t0_2 t0_3 t0_4 t0_5 t0_6 t0_7 t0_8 t0_9 t0_10 t0_11 t0_12 t0_13 t0_14 t0_15 t0_16 t0_17 t0_18 t0_19 t0_20 t0_21 t1_0 t2_0 t3_0 t4_0 t5_0 t6_0 a48 lx59 lx75 lx76 lx77 lx78 lx79 lx80 lx81 lx82 lx99).2.2.2.2.2.2.1 (zUp t0_13 (zWid W lx75 lx78 f t)) := by
  unfold F_VR_make_J238
  have w := Z_wid (t0_0 := t0_0) (t0_1 := t0_1) (t0_2 := t0_2) (t0_3 := t0_3) (t0_4 := t0_4) (t0_5 := t0_5) (t0_6 := t0_6) (t0_7 := t0_7) (t0_8 := t0_8) (t0_9 := lx75) (t0_10 := t0_10) (t0_11 := t0_11) (t0_12 := t0_12) (t0_13 := t0_13) (t0_14 := t0_14) (t0_15 := t0_15) (t0_16 := t0_16) (t0_17 := lx99) (t0_18 := lx77) (t0_19 := lx78) (t0_20 := lx79) (t0_21 := lx80) h11 hW h99 ht h77 hf
  have wl := zWid_l (W := W) (fl := lx75) (pd := lx78) (f := f) (t := t)
  revert w wl
  generalize F_VR_widen t0_0 t0_1 t0_2 t0_3 t0_4 t0_5 t0_6 t0_7 t0_8 lx75 t0_10 t0_11 t0_12 t0_13 t0_14 t0_15 t0_16 lx99 lx77 lx78 lx79 lx80 lx81 = q
  generalize zWid W lx75 lx78 f t = u
  intro w wl
  unfold F_VR_make_c239 zUp
  by_cases c : t0_13 < 65
  · rw [if_pos c, if_pos c]
    exact w
  · rw [if_neg c, if_neg c]
    by_cases c2 : 90 < t0_13
    · rw [if_pos c2, if_pos c2]
      exact w
    · rw [if_neg c2, if_neg c2]
      obtain ⟨m1, m2⟩ := Z_mkU (t0_0 := t0_0) (t0_1 := t0_1) (t0_2 := t0_2) (t0_3 := t0_3) (t0_4 := t0_4) (t0_5 := t0_5) (t0_6 := t0_6) (t0_7 := t0_7) (t0_8 := t0_8) (t0_9 := t0_9) (t0_10 := t0_10) (t0_11 := t0_11) (t0_12 := t0_12) (t0_13 := t0_13) (t0_14 := t0_14) (t0_15 := t0_15) (t0_16 := t0_16) (t0_17 := t0_17) (t0_18 := t0_18) (t0_19 := t0_19) (t0_20 := t0_20) (t0_21 := t0_21) (t1_0 := t1_0) (t2_0 := t2_0) (t3_0 := t3_0) (t4_0 := t4_0) (t5_0 := t5_0) (t6_0 := t6_0) (a48 := a48) (lx59 := lx59) (lx75 := lx75) (lx76 := lx76) (lx77 := lx77) (lx78 := lx78) (lx79 := lx79) (lx80 := lx80) (lx81 := lx81) (lx82 := lx82) (lx99 := lx99) (p123 := q) (y118 := q.1) (g := fun i => u.getD i 0) w.1 (by omega) 1000000 0 q.2 0 rfl (by omega) (by omega) (fun i hi => by rw [if_neg (by omega)]; exact w.2 i hi)
      refine ⟨by rw [m1, List.length_map]; exact w.1, fun i hi => ?_⟩
      rw [List.length_map] at hi
      rw [m2 i hi, List.getD_eq_getElem?_getD (l := List.map zUc u), List.getElem?_map, List.getElem?_eq_getElem hi, List.getD_eq_getElem?_getD, List.getElem?_eq_getElem hi]
      rfl
theorem Z_m200 {t0_0 : Int32} {t0_1 : Int32} {t0_2 : Int32} {t0_3 : Int32} {t0_4 : Int32} {t0_5 : Int32} {t0_6 : Int32} {t0_7 : Int32} {t0_8 : Int32} {t0_9 : Int32} {t0_10 : Int32} {t0_11 : Int32} {t0_12 : Int32} {t0_13 : Int32} {t0_14 : Int32} {t0_15 : Int32} {t0_16 : Int32} {t0_17 : Int32} {t0_18 : Int32} {t0_19 : Int32} {t0_20 : Int32} {t0_21 : Int32} {t1_0 : (Nat → Int32)} {t2_0 : (Nat → Int32)} {t3_0 : (Nat → Int64)} {t4_0 : (Nat → Int32)} {t5_0 : (Nat → Int32)} {t6_0 : (Nat → Int32)} {a48 : Int32} {lx59 : Int32} {lx75 : Int32} {lx76 : Int32} {lx77 : Int32} {lx78 : Int32} {lx79 : Int32} {lx80 : Int32} {lx81 : (Nat → Int32)} {lx82 : (Nat → Int32)} {t : List Nat} {W pr : Int} {f : Nat} (h11 : t0_11.toInt = W) (hW : -1 ≤ W ∧ W ≤ 9999) (h12 : t0_12.toInt = pr) (h76 : yRt lx76 lx81 t) (ht : t.length ≤ 20000) (h77 : lx77.toInt = (f : Int)) (hf : f = 0 ∨ (¬ (a48 = 98 ∨ a48 = 115) ∧ f ≤ t.length)) : yRt (F_VR_make_J200 t0_0 t0_1 t0_2 t0_3 t0_4 t0_5 t0_6 t0_7 t0_8 t0_9 t0_10 t0_11 t0_12 t0_13 t0_14 t0_15 t0_16 t0_17 t0_18 t0_19 t0_20 t0_21 t1_0 t2_0 t3_0 t4_0 t5_0 t6_0 a48 lx59 lx75 lx76 lx77 lx78 lx79 lx80 lx81 lx82).2.1 (F_VR_make_J200 t0_0 t0_1 t0_2 t0_3 t0_4 t0_5 t0_6 t0_7 t0_8 t0_9 t0_10 t0_11 t0_12 t0_13 t0_14 t0_15 t0_16 t0_17 t0_18 t0_19 t0_20 t0_21 t1_0 t2_0 t3_0 t4_0 t5_0 t6_0 a48 lx59 lx75 lx76 lx77 lx78 lx79 lx80 lx81 lx82).2.2.2.2.2.2.1 (zUp t0_13 (zWid W lx75 lx78 f (zCut a48 pr t))) := by
  have e0 : (0 : Int32).toInt = 0 := rfl
  have h1 := h76.1
  have J : (a48 = 98 ∨ a48 = 115) → yRt (F_VR_make_J212 t0_0 t0_1 t0_2 t0_3 t0_4 t0_5 t0_6 t0_7 t0_8 t0_9 t0_10 t0_11 t0_12 t0_13 t0_14 t0_15 t0_16 t0_17 t0_18 t0_19 t0_20 t0_21 t1_0 t2_0 t3_0 t4_0 t5_0 t6_0 a48 lx59 lx75 lx76 lx77 lx78 lx79 lx80 lx81 lx82).2.1 (F_VR_make_J212 t0_0 t0_1 t0_2 t0_3 t0_4 t0_5 t0_6 t0_7 t0_8 t0_9 t0_10 t0_11 t0_12 t0_13 t0_14 t0_15 t0_16 t0_17 t0_18 t0_19 t0_20 t0_21 t1_0 t2_0 t3_0 t4_0 t5_0 t6_0 a48 lx59 lx75 lx76 lx77 lx78 lx79 lx80 lx81 lx82).2.2.2.2.2.2.1 (zUp t0_13 (zWid W lx75 lx78 f (zCut a48 pr t))) := by
    intro x
    have f0 : f = 0 := hf.elim id (fun w => absurd x w.1)
    unfold F_VR_make_J212 zCut
    rw [if_pos x]
    by_cases c : t0_12 < 0
    · have c' := q_ltI c
      rw [if_pos c, if_pos (show pr < 0 by omega)]
      exact Z_m238 h11 hW h76 ht h77 (by omega)
    · have c' := q_nltI c
      rw [if_neg c, if_neg (show ¬ pr < 0 by omega)]
      by_cases d : lx76 ≤ t0_12
      · have d' := q_leI d
        rw [if_pos d, List.take_of_length_le (by omega)]
        exact Z_m238 h11 hW h76 ht h77 (by omega)
      · have d' := q_nleI d
        rw [if_neg d]
        exact Z_m238 h11 hW (yRt_tk h76 (by omega) (by omega)) (by rw [List.length_take]; omega) h77 (by omega)
  unfold F_VR_make_J200
  by_cases c : a48 = 98
  · rw [if_pos c]
    exact J (Or.inl c)
  · rw [if_neg c]
    by_cases d : a48 = 115
    · rw [if_pos d]
      exact J (Or.inr d)
    · rw [if_neg d]
      unfold zCut
      rw [if_neg (fun w => w.elim c d)]
      exact Z_m238 h11 hW h76 ht h77 (hf.elim (fun w => by omega) (fun w => w.2))
theorem Z_mE {t0_0 : Int32} {t0_1 : Int32} {t0_2 : Int32} {t0_3 : Int32} {t0_4 : Int32} {t0_5 : Int32} {t0_6 : Int32} {t0_7 : Int32} {t0_8 : Int32} {t0_9 : Int32} {t0_10 : Int32} {t0_11 : Int32} {t0_12 : Int32} {t0_13 : Int32} {t0_14 : Int32} {t0_15 : Int32} {t0_16 : Int32} {t0_17 : Int32} {t0_18 : Int32} {t0_19 : Int32} {t0_20 : Int32} {t0_21 : Int32} {t1_0 : (Nat → Int32)} {t2_0 : (Nat → Int32)} {t3_0 : (Nat → Int64)} {t4_0 : (Nat → Int32)} {t5_0 : (Nat → Int32)} {t6_0 : (Nat → Int32)} {a48 : Int32} {lx59 : Int32} {lx75 : Int32} {lx76 : Int32} {lx77 : Int32} {lx78 : Int32} {lx79 : Int32} {lx80 : Int32} {lx81 : (Nat → Int32)} {lx82 : (Nat → Int32)} {t : List Nat} {W pr : Int} {f : Nat} {a : yA} (h11 : t0_11.toInt = W) (hW : -1 ≤ W ∧ W ≤ 9999) (h12 : t0_12.toInt = pr) (h48 : a48 = zSm t0_13) (hb : zBdT a48 t0_9 pr a t f lx78) (h75 : lx75 &&& 1 = t0_9 &&& 1) (h76 : yRt lx76 lx81 t) (ht : t.length ≤ 20000) (h77 : lx77.toInt = (f : Int)) (hf : f = 0 ∨ (¬ (a48 = 98 ∨ a48 = 115) ∧ f ≤ t.length)) : ∃ q, zPc t0_13 t0_9 W pr a q ∧ yRt (F_VR_make_J200 t0_0 t0_1 t0_2 t0_3 t0_4 t0_5 t0_6 t0_7 t0_8 t0_9 t0_10 t0_11 t0_12 t0_13 t0_14 t0_15 t0_16 t0_17 t0_18 t0_19 t0_20 t0_21 t1_0 t2_0 t3_0 t4_0 t5_0 t6_0 a48 lx59 lx75 lx76 lx77 lx78 lx79 lx80 lx81 lx82).2.1 (F_VR_make_J200 t0_0 t0_1 t0_2 t0_3 t0_4 t0_5 t0_6 t0_7 t0_8 t0_9 t0_10 t0_11 t0_12 t0_13 t0_14 t0_15 t0_16 t0_17 t0_18 t0_19 t0_20 t0_21 t1_0 t2_0 t3_0 t4_0 t5_0 t6_0 a48 lx59 lx75 lx76 lx77 lx78 lx79 lx80 lx81 lx82).2.2.2.2.2.2.1 q := by
  have := Z_m200 (t0_0 := t0_0) (t0_1 := t0_1) (t0_2 := t0_2) (t0_3 := t0_3) (t0_4 := t0_4) (t0_5 := t0_5) (t0_6 := t0_6) (t0_7 := t0_7) (t0_8 := t0_8) (t0_9 := t0_9) (t0_10 := t0_10) (t0_11 := t0_11) (t0_12 := t0_12) (t0_13 := t0_13) (t0_14 := t0_14) (t0_15 := t0_15) (t0_16 := t0_16) (t0_17 := t0_17) (t0_18 := t0_18) (t0_19 := t0_19) (t0_20 := t0_20) (t0_21 := t0_21) (t1_0 := t1_0) (t2_0 := t2_0) (t3_0 := t3_0) (t4_0 := t4_0) (t5_0 := t5_0) (t6_0 := t6_0) (a48 := a48) (lx59 := lx59) (lx75 := lx75) (lx76 := lx76) (lx77 := lx77) (lx78 := lx78) (lx79 := lx79) (lx80 := lx80) (lx81 := lx81) (lx82 := lx82) h11 hW h12 h76 ht h77 hf
  rw [zWid_fl h75] at this
  exact ⟨_, ⟨t, f, lx78, by rw [← h48]; exact hb, by rw [← h48]⟩, this⟩

