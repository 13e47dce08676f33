/-! values, for whole: the class's decimalText -/
theorem yMin_c {a b : Prop} [Decidable a] [Decidable b] (h : a ↔ b) : yMin a = yMin b := by
  unfold yMin
  by_cases k : a
  · rw [if_pos k, if_pos (h.mp k)]
  · rw [if_neg k, if_neg (fun q => k (h.mpr q))]
theorem y_ngI {R s n : Int32} {f : Nat → Int32} {v : Int} (h : bO R s n f v) : ¬ n = 0 ↔ v < 0 := by
  rcases h.sgn with ⟨e, k⟩ | ⟨e, k⟩
  · rw [e]
    exact ⟨fun q => absurd rfl q, fun q => by omega⟩
  · rw [e]
    exact ⟨fun _ => k, fun _ => by decide⟩
def yPln (N : Nat) (s : Int) (c d : Nat) : List Nat := yPlA N s 0 ((if (if d = 0 then 0 else (c : Int) - 1 - s) < 0 then 0 else (if d = 0 then 0 else (c : Int) - 1 - s)).toNat + 1) ++ yTail N s (max s 0).toNat 0
/-- the text of a decimal -/
def yDtx (st : Int32) (v s : Int) (c : Nat) : List Nat := yMin (v < 0) ++ (if st = 1 ∨ s = 0 ∨ (0 < s ∧ -6 ≤ (c : Int) - 1 - s) then yPln v.natAbs s c (if v = 0 then 0 else c) else if st = 0 then yHead v.natAbs (if v = 0 then 0 else c) c 0 ++ yE ((c : Int) - 1 - s) else yThr v.natAbs (if v = 0 then 0 else c) c ((c : Int) - 1 - s))
theorem yMin_l {a : Prop} [Decidable a] : (yMin a).length ≤ 1 := by
  unfold yMin
  split
  · exact Nat.le_refl _
  · exact Nat.zero_le _
theorem V_Wdec {R : Int32} {x3 : Int32} {t0_0 : Int32} {t1_0 : (Nat → Int64)} {t2_0 : Int32} {t2_1 : Int32} {t3_0 : (Nat → Int32)} {t4_0 : Int32} {t4_1 : Int32} {t5_0 : (Nat → Int32)} {t6_0 : Int32} {t6_1 : Int32} {t7_0 : Int32} {t7_1 : Int32} {t8_0 : (Nat → Int32)} {q : Int × Int} {c : Nat} (h : dP 108 t7_0 t7_1 t8_0 t6_0 t6_1 q) (hR : R = 108) (hc : vG q.1 c) : yPa (F_Wri_decimalText R x3 t0_0 t1_0 t2_0 t2_1 t3_0 t4_0 t4_1 t5_0 t6_0 t6_1 t7_0 t7_1 t8_0).1 (F_Wri_decimalText R x3 t0_0 t1_0 t2_0 t2_1 t3_0 t4_0 t4_1 t5_0 t6_0 t6_1 t7_0 t7_1 t8_0).2.1 (yDtx x3 q.1 q.2 c) := by
  subst hR
  have e0 : (0 : Int32).toInt = 0 := rfl
  have e1 : (1 : Int32).toInt = 1 := rfl
  have e6 : (-6 : Int32).toInt = -6 := rfl
  obtain ⟨hb, ⟨c2, h1, h2, h3⟩, h4, h5, h6⟩ := h
  have : c2 = c := by
    rcases yDt_vG h2 with ⟨z, k, _⟩ | ⟨z, k⟩
    · rcases yDt_vG hc with ⟨_, k', _⟩ | ⟨z', _⟩
      · omega
      · exact absurd z z'
    · rcases yDt_vG hc with ⟨z', _, _⟩ | ⟨_, k'⟩
      · exact absurd z' z
      · exact yDt_U k k'
  subst this
  have c1 : 1 ≤ c2 := hc.1.1
  have hd : yDt q.1.natAbs (if q.1 = 0 then 0 else c2) := by
    rcases yDt_vG hc with ⟨z, _, k⟩ | ⟨z, k⟩
    · rw [if_pos z]
      exact k
    · rw [if_neg z]
      exact k
  have hd0 : (if q.1 = 0 then 0 else c2) = 0 ∨ (if q.1 = 0 then 0 else c2) = c2 := by
    split
    · exact Or.inl rfl
    · exact Or.inr rfl
  unfold F_Wri_decimalText yDtx
  have b1 := V_begin (x2 := t7_1) (t0_0 := t0_0) (t1_0 := t1_0)
  rw [yMin_c (y_ngI hb), ← y_begP] at b1
  have mL := yMin_l (a := q.1 < 0)
  revert b1 mL
  generalize F_Wri_begin_p t7_1 t0_0 t1_0 = p
  generalize yMin (q.1 < 0) = mn
  intro b1 mL
  unfold F_Wri_decimalText_c8
  have cp := W_copy (R := 220) (R2 := 108) (s := t4_0) (neg := t4_1) (f := t5_0) hb (by have := hb.2.2.2.1; have e108 : (108 : Int32).toInt = 108 := rfl; have e220 : (220 : Int32).toInt = 220 := rfl; omega) (by decide)
  revert cp
  generalize F_Big_copy 220 108 t4_0 t4_1 t5_0 t7_0 t7_1 t8_0 = r
  intro cp
  unfold F_Wri_decimalText_c22
  have hN : yLt10 q.1.natAbs 1026 := Nat.lt_of_lt_of_le hc.1.2.1 (Nat.pow_le_pow_right (by decide) (by omega))
  have fl := V_fill (R := 220) (x3 := t6_0) (t0_0 := t2_0) (t0_1 := t2_1) (t1_0 := t3_0) cp hN (by omega)
  revert fl
  generalize F_Dig_fill 220 t6_0 t2_0 t2_1 t3_0 r.1 r.2.1 r.2.2 = w
  intro fl
  obtain ⟨⟨d, f1, f2, f3, f4⟩, fp, _⟩ := fl
  have hdd := yDt_U f3 hd
  have pw := fp d f3
  revert hd0 hdd
  generalize (if q.1 = 0 then 0 else c2) = D
  intro hd0 hdd
  subst hdd
  have dg : yDgc w.1 w.2.2.1 q.1.natAbs d := ⟨f1, f2, f3, f4⟩
  have s1 := q_subI h1 e1 (by omega) (by omega)
  have tp : ((t6_1 - 1) - t6_0).toInt = (c2 : Int) - 1 - q.2 := q_subI s1 h4 (by omega) (by omega)
  unfold F_Wri_decimalText_c40
  have plc : (if (0 : Int32) < t6_0 then t6_0 else 0).toInt = (((max q.2 0).toNat : Nat) : Int) := by
    by_cases g : (0 : Int32) < t6_0
    · rw [if_pos g]
      have := q_ltI g
      omega
    · rw [if_neg g]
      have := q_nltI g
      omega
  have pl := V_wPlain (N := 1376) (K := 1000000) (x4 := 0) (x5 := 0) (t2_0 := p.1) (t3_0 := p.2) (R := 11008) (s := q.2) (pl := (max q.2 0).toNat) (x3 := if (0 : Int32) < t6_0 then t6_0 else 0) (t0_1 := w.2.1) rfl dg (fun d0 => by rw [pw, if_neg d0]; omega) (by rw [pw]; split <;> omega) plc (by omega) b1 (by omega)
  have ple : mn ++ yPlA q.1.natAbs q.2 0 ((if w.2.1.toInt < 0 then 0 else w.2.1.toInt).toNat + 1) ++ yTail q.1.natAbs q.2 (max q.2 0).toNat 0 = mn ++ yPln q.1.natAbs q.2 c2 d := by
    unfold yPln
    have : w.2.1.toInt = (if d = 0 then 0 else (c2 : Int) - 1 - q.2) := by
      rw [pw]
      rcases hd0 with k | k
      · rw [if_pos k, if_pos k]
      · rw [k, h4]
    rw [this, List.append_assoc]
  rw [ple] at pl
  have j108 : ¬ (x3 = 1 ∨ q.2 = 0 ∨ (0 < q.2 ∧ -6 ≤ (c2 : Int) - 1 - q.2)) → ∀ o : Int32 × (Nat → Int64) × Int32 × Int32 × (Nat → Int32) × Int32 × Int32 × (Nat → Int32), o = F_Wri_decimalText_J108 108 x3 t0_0 t1_0 t2_0 t2_1 t3_0 t4_0 t4_1 t5_0 t6_0 t6_1 t7_0 t7_1 t8_0 p p.1 p.2 r w ((t6_1 - 1) - t6_0) w.1 w.2.1 w.2.2.1 w.2.2.2.1 w.2.2.2.2.1 w.2.2.2.2.2 → yPa o.1 o.2.1 (mn ++ (if x3 = 0 then yHead q.1.natAbs d c2 0 ++ yE ((c2 : Int) - 1 - q.2) else yThr q.1.natAbs d c2 ((c2 : Int) - 1 - q.2))) := by
    intro _ o ho
    rw [ho]
    unfold F_Wri_decimalText_J108
    by_cases z : x3 = 0
    · rw [if_pos z, if_pos z]
      have hh := V_wHead (N := 1376) (K := 1000000) (x4 := 0) (t2_0 := p.1) (t3_0 := p.2) (R := 11008) (t0_1 := w.2.1) (x3 := t6_1) rfl dg h1 (by omega) b1 (by omega)
      revert hh
      generalize F_Dig_writeHead 11008 1376 1000000 t6_1 0 w.1 w.2.1 w.2.2.1 p.1 p.2 = u
      intro hh
      unfold F_Wri_decimalText_c125
      have hlen : (yHead q.1.natAbs d c2 0).length ≤ 2 + c2 := by
        unfold yHead
        rw [List.length_append, List.length_append, yDz_len, List.length_singleton]
        have : (if 1 < c2 ∨ (0 : Int32) ≠ 0 then [46] else ([] : List Nat)).length ≤ 1 := by
          split
          · exact Nat.le_refl _
          · exact Nat.zero_le _
        omega
      have we := V_wE (x2 := (t6_1 - 1) - t6_0) hh (by rw [List.length_append]; omega) (by omega)
      rw [tp] at we
      revert we
      generalize F_Wri_writePower ((t6_1 - 1) - t6_0) u.1 u.2 = y
      intro we
      unfold F_Wri_decimalText_c131
      rw [← List.append_assoc]
      exact we
    · rw [if_neg z, if_neg z]
      have th := V_wThr (t2_1 := w.2.1) (x2 := t6_1) (x3 := (t6_1 - 1) - t6_0) dg h1 (by omega) (by omega) b1 (by omega)
      rw [tp] at th
      revert th
      generalize F_Wri_writeByThrees t6_1 ((t6_1 - 1) - t6_0) p.1 p.2 w.1 w.2.1 w.2.2.1 = y
      intro th
      unfold F_Wri_decimalText_c144
      exact th
  revert pl
  generalize F_Dig_writePlain 11008 1376 1000000 (if (0 : Int32) < t6_0 then t6_0 else 0) 0 0 w.1 w.2.1 w.2.2.1 p.1 p.2 = y
  intro pl
  by_cases g1 : x3 = 1
  · rw [if_pos g1, if_pos (Or.inl g1)]
    unfold F_Wri_decimalText_c102
    exact pl
  · rw [if_neg g1]
    by_cases g2 : t6_0 = 0
    · rw [if_pos g2, if_pos (Or.inr (Or.inl (by rw [← h4, g2]; rfl)))]
      unfold F_Wri_decimalText_c102_5
      exact pl
    · rw [if_neg g2]
      have g2' : q.2 ≠ 0 := fun e => g2 (Int32.toInt_inj.mp (by rw [h4, e]; rfl))
      by_cases g3 : t6_0 ≤ 0
      · rw [if_pos g3]
        have g3 := q_leI g3
        have nn : ¬ (x3 = 1 ∨ q.2 = 0 ∨ (0 < q.2 ∧ -6 ≤ (c2 : Int) - 1 - q.2)) := fun k => by
          rcases k with k | k | k
          · exact g1 k
          · exact g2' k
          · omega
        rw [if_neg nn]
        exact j108 nn _ rfl
      · rw [if_neg g3]
        have g3 := q_nleI g3
        by_cases g4 : ((t6_1 - 1) - t6_0) < -6
        · rw [if_pos g4]
          have g4 := q_ltI g4
          have nn : ¬ (x3 = 1 ∨ q.2 = 0 ∨ (0 < q.2 ∧ -6 ≤ (c2 : Int) - 1 - q.2)) := fun k => by
            rcases k with k | k | k
            · exact g1 k
            · exact g2' k
            · omega
          rw [if_neg nn]
          exact j108 nn _ rfl
        · rw [if_neg g4]
          have g4 := q_nltI g4
          rw [if_pos (Or.inr (Or.inr ⟨by omega, by omega⟩))]
          unfold F_Wri_decimalText_c102_10
          exact pl
