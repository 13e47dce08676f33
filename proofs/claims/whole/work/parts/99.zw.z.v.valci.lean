/-! values, for whole: the reference's wholes written -/
theorem V_wr50 {x2 : Int32} {x3 : Int32} {t0_0 : Int32} {t0_1 : Int32} {t0_2 : Int32} {t0_3 : Int32} {t0_4 : Int32} {t0_5 : Int32} {t0_6 : Int32} {t1_0 : (Nat → Int32)} {t2_0 : (Nat → Int32)} {t3_0 : (Nat → Int32)} {t4_0 : (Nat → Int32)} {lx33 : Int32} {W : Nat → Int} {N b : Nat} {v : Int} (hw : wRv t1_0 t2_0 W) (hx2 : 0 ≤ x2.toInt ∧ x2.toInt ≤ 10) (hv : W x2.toNatClampNeg = v) (hN : v.natAbs = N) (hb : x3.toInt = (b : Int)) (hb2 : 2 ≤ b ∧ b ≤ 36) (hN2 : N < 2 ^ 2048) (h33 : lx33 = 0) : ∀ (n : Nat) (lx61 : Int32) (lx62 : (Nat → Int32)) (lx63 : (Nat → Int32)), ∀ (k : Nat), lx61.toInt = (k : Int) → k ≤ 2049 → 2100 < n + k → yRt lx61 lx63 (yLw b N 0 k) → wK ((N / b ^ k : Nat) : Int) lx62 → (k ≠ 0 → k ≠ 1 → N / b ^ (k - 1) ≠ 0) → ∀ c, yDB b N c → yRt (F_WR_written_L50 x2 x3 t0_0 t0_1 t0_2 t0_3 t0_4 t0_5 t0_6 t1_0 t2_0 t3_0 t4_0 lx33 n lx61 lx62 lx63).1 (F_WR_written_L50 x2 x3 t0_0 t0_1 t0_2 t0_3 t0_4 t0_5 t0_6 t1_0 t2_0 t3_0 t4_0 lx33 n lx61 lx62 lx63).2.2.2.2.2.2.2.2.2 (yWtx b v c) ∧ (F_WR_written_L50 x2 x3 t0_0 t0_1 t0_2 t0_3 t0_4 t0_5 t0_6 t1_0 t2_0 t3_0 t4_0 lx33 n lx61 lx62 lx63).2.1 = 0 := by
  have e0 : (0 : Int32).toInt = 0 := rfl
  have e1 : (1 : Int32).toInt = 1 := rfl
  have e10 : (10 : Int32).toInt = 10 := rfl
  have e48 : (48 : Int32).toInt = 48 := rfl
  have e97 : (97 : Int32).toInt = 97 := rfl
  have big : ∀ k, 2048 ≤ k → N / b ^ k = 0 := by
    intro k hk
    refine Nat.div_eq_of_lt (Nat.lt_of_lt_of_le hN2 ?_)
    exact Nat.le_trans (Nat.pow_le_pow_right (by decide) hk) (Nat.pow_le_pow_left hb2.1 k)
  intro n
  induction n with
  | zero =>
    intro lx61 lx62 lx63 k h1 h2 h3
    omega
  | succ n ih =>
    intro lx61 lx62 lx63 k h1 h2 h3 h4 h5 h6 c hc
    rw [F_WR_written_L50.eq_2]
    have more : (k = 0 ∨ N / b ^ k ≠ 0) → yRt (F_WR_written_J67 (F_WR_written_L50 x2 x3 t0_0 t0_1 t0_2 t0_3 t0_4 t0_5 t0_6 t1_0 t2_0 t3_0 t4_0 lx33 n) x2 x3 t0_0 t0_1 t0_2 t0_3 t0_4 t0_5 t0_6 t1_0 t2_0 t3_0 t4_0 lx33 lx61 lx62 lx63).1 (F_WR_written_J67 (F_WR_written_L50 x2 x3 t0_0 t0_1 t0_2 t0_3 t0_4 t0_5 t0_6 t1_0 t2_0 t3_0 t4_0 lx33 n) x2 x3 t0_0 t0_1 t0_2 t0_3 t0_4 t0_5 t0_6 t1_0 t2_0 t3_0 t4_0 lx33 lx61 lx62 lx63).2.2.2.2.2.2.2.2.2 (yWtx b v c) ∧ (F_WR_written_J67 (F_WR_written_L50 x2 x3 t0_0 t0_1 t0_2 t0_3 t0_4 t0_5 t0_6 t1_0 t2_0 t3_0 t4_0 lx33 n) x2 x3 t0_0 t0_1 t0_2 t0_3 t0_4 t0_5 t0_6 t1_0 t2_0 t3_0 t4_0 lx33 lx61 lx62 lx63).2.1 = 0 := by
      intro hk
      have k48 : k ≤ 2047 := by
        rcases hk with q | q
        · omega
        · rcases Nat.lt_or_ge k 2048 with w | w
          · omega
          · exact absurd (big k w) q
      unfold F_WR_written_J67
      have sh := (R_shr4 (y := x3) (f := lx62) (by omega) h5.1).2
      revert sh
      generalize F_WR_shrink 264 x3 lx62 = p
      intro sh
      obtain ⟨s1, s2, s3, s4⟩ := sh
      have wv : wV lx62 264 = ((N / b ^ k : Nat) : Int) := h5.2
      have s4 : wV p.2 264 * x3.toInt + p.1.toInt = wV lx62 264 := s4
      rw [wv, hb] at s4
      rw [hb] at s3
      obtain ⟨d, hd⟩ : ∃ d : Nat, p.1.toInt = (d : Int) := ⟨p.1.toInt.toNat, by omega⟩
      have wn : 0 ≤ wV p.2 264 := w_nn s1
      obtain ⟨q, hq⟩ : ∃ q : Nat, wV p.2 264 = (q : Int) := ⟨(wV p.2 264).toNat, by omega⟩
      rw [hq, hd] at s4
      have s5 : q * b + d = N / b ^ k := by
        have : ((q * b + d : Nat) : Int) = ((N / b ^ k : Nat) : Int) := by
          rw [← s4, Int.natCast_add, Int.natCast_mul]
        exact Int.ofNat.inj this
      have db : d < b := by omega
      have dq : yBg b N k = d := by
        unfold yBg
        rw [← s5, Nat.add_comm, Nat.add_mul_mod_self_right, Nat.mod_eq_of_lt db]
      have qq : q = N / b ^ (k + 1) := by
        rw [← y_dvS, ← s5, Nat.add_comm, Nat.add_mul_div_right _ _ (by omega), Nat.div_eq_of_lt db, Nat.zero_add]
      have wk2 : wK ((N / b ^ (k + 1) : Nat) : Int) p.2 := ⟨s1, by show wV p.2 264 = _; rw [hq, qq]⟩
      have ap : ∀ x : Int32, x.toInt = ((yLet d : Nat) : Int) → yRt (lx61 + 1) (upd lx63 lx61.toNatClampNeg x) (yLw b N 0 (k + 1)) := by
        intro x hx
        rw [yLw_s, Nat.zero_add, dq]
        exact V_rt h4 (by rw [yLw_len]; omega) hx
      have fin : ∀ x : Int32, x.toInt = ((yLet d : Nat) : Int) → yRt (F_WR_written_L50 x2 x3 t0_0 t0_1 t0_2 t0_3 t0_4 t0_5 t0_6 t1_0 t2_0 t3_0 t4_0 lx33 n (lx61 + 1) p.2 (upd lx63 lx61.toNatClampNeg x)).1 (F_WR_written_L50 x2 x3 t0_0 t0_1 t0_2 t0_3 t0_4 t0_5 t0_6 t1_0 t2_0 t3_0 t4_0 lx33 n (lx61 + 1) p.2 (upd lx63 lx61.toNatClampNeg x)).2.2.2.2.2.2.2.2.2 (yWtx b v c) ∧ (F_WR_written_L50 x2 x3 t0_0 t0_1 t0_2 t0_3 t0_4 t0_5 t0_6 t1_0 t2_0 t3_0 t4_0 lx33 n (lx61 + 1) p.2 (upd lx63 lx61.toNatClampNeg x)).2.1 = 0 := by
        intro x hx
        refine ih (lx61 + 1) p.2 _ (k + 1) (q_addI h1 e1 (by omega) (by omega)) (by omega) (by omega) (ap x hx) wk2 (fun _ k1 => ?_) c hc
        rcases hk with w | w
        · exact absurd (by omega) k1
        · exact w
      unfold F_WR_written_c72
      by_cases g : (10 : Int32) ≤ p.1
      · rw [if_pos g]
        have g := q_leI g
        refine fin _ ?_
        have a1 := q_addI e97 hd (by omega) (by omega)
        rw [q_subI a1 e10 (by omega) (by omega)]
        unfold yLet
        rw [if_neg (by omega)]
        omega
      · rw [if_neg g]
        have g := q_nleI g
        refine fin _ ?_
        rw [q_addI e48 hd (by omega) (by omega)]
        unfold yLet
        rw [if_pos (by omega)]
        omega
    by_cases g : (0 : Int32) < F_WR_size 264 lx62
    · rw [if_pos g]
      have z1 := w_sz1 h5.1 (fun q => by have := q_ltI g; have := q_leI q; omega)
      have z2 : 0 < wV lx62 264 := z1
      have wv : wV lx62 264 = ((N / b ^ k : Nat) : Int) := h5.2
      exact more (Or.inr (fun e => by rw [wv, e] at z2; exact absurd z2 (by decide)))
    · rw [if_neg g]
      have z0 := w_sz0 h5.1 (Int32.not_lt.mp g)
      have wv : wV lx62 264 = ((N / b ^ k : Nat) : Int) := h5.2
      rw [z0] at wv
      have nz : N / b ^ k = 0 := by
        have : ((N / b ^ k : Nat) : Int) = ((0 : Nat) : Int) := wv.symm
        exact Int.ofNat.inj this
      by_cases z : lx61 = 0
      · rw [if_pos z]
        exact more (Or.inl (by rw [z, e0] at h1; omega))
      · rw [if_neg z]
        have kz : k ≠ 0 := fun e => z (Int32.toInt_inj.mp (by rw [h1, e]; rfl))
        have km : k = max c 1 := by
          by_cases k1 : k = 1
          · rw [k1] at nz ⊢
            have : c ≤ 1 := by
              rcases Nat.lt_or_ge 1 c with w | w
              · exact absurd (y_dv0 (by omega) nz (show 1 ≤ c - 1 by omega)) (hc.2 (by omega))
              · exact w
            omega
          · have := yDB_U (by omega) (show yDB b N k from ⟨nz, fun _ => h6 kz k1⟩) hc
            omega
        rw [km] at h4
        have sg := hw.sg hx2
        unfold yWtx
        rw [hN]
        by_cases mn : t2_0 x2.toNatClampNeg = 0
        · rw [if_pos mn]
          have nn : ¬ v < 0 := by
            have h9 := sg.2
            rw [hv, mn] at h9
            unfold sgI at h9
            rw [if_pos rfl] at h9
            have := (wVk_nn hx2 hw.1).1
            omega
          have r := V_wr148 (x2 := x2) (x3 := x3) (t0_0 := t0_0) (t0_1 := t0_1) (t0_2 := t0_2) (t0_3 := t0_3) (t0_4 := t0_4) (t0_5 := t0_5) (t0_6 := t0_6) (t1_0 := t1_0) (t2_0 := t2_0) (t3_0 := t3_0) (t4_0 := t4_0) (K_F_WR_written_L50 := F_WR_written_L50 x2 x3 t0_0 t0_1 t0_2 t0_3 t0_4 t0_5 t0_6 t1_0 t2_0 t3_0 t4_0 lx33 n) (lx33 := lx33) (lx61 := lx61) (lx62 := lx62) (lx63 := lx63) h4 (by rw [yLw_len]; omega)
          unfold yMin
          rw [if_neg nn]
          exact ⟨r.1, by rw [r.2, h33]⟩
        · rw [if_neg mn]
          have nn : v < 0 := by
            rcases hw.2 x2.toNatClampNeg (by have := q_clI (i := x2) rfl hx2.1; omega) with ⟨w, _⟩ | ⟨_, w1, w2⟩
            · exact absurd w mn
            · rw [hv] at w2
              omega
          have ap := V_rt (x := 45) (v := 45) h4 (by rw [yLw_len]; omega) rfl
          have r := V_wr148 (x2 := x2) (x3 := x3) (t0_0 := t0_0) (t0_1 := t0_1) (t0_2 := t0_2) (t0_3 := t0_3) (t0_4 := t0_4) (t0_5 := t0_5) (t0_6 := t0_6) (t1_0 := t1_0) (t2_0 := t2_0) (t3_0 := t3_0) (t4_0 := t4_0) (K_F_WR_written_L50 := F_WR_written_L50 x2 x3 t0_0 t0_1 t0_2 t0_3 t0_4 t0_5 t0_6 t1_0 t2_0 t3_0 t4_0 lx33 n) (lx33 := lx33) (lx61 := lx61) (lx62 := lx62) (lx63 := lx63) ap (by rw [List.length_append, List.length_singleton]; omega)
          unfold yMin
          rw [if_pos nn]
          rw [List.reverse_append] at r
          exact ⟨r.1, by rw [r.2, h33]⟩
theorem y_wkA {W : Nat → Int} {k m r : Nat → Int32} {x : Int32} (hw : wRv k m W) (hx : 0 ≤ x.toInt ∧ x.toInt ≤ 10) (h : wK (wVk k x) r) : wK (((W x.toNatClampNeg).natAbs : Nat) : Int) r := by
  have sg := (hw.sg hx).2
  have nn := wVk_nn hx hw.1
  have e : (((W x.toNatClampNeg).natAbs : Nat) : Int) = wVk k x := by
    rw [sg, sgI_abs]
    omega
  rw [e]
  exact h
theorem V_WRwr {x2 : Int32} {x3 : Int32} {t0_0 : Int32} {t0_1 : Int32} {t0_2 : Int32} {t0_3 : Int32} {t0_4 : Int32} {t0_5 : Int32} {t0_6 : Int32} {t1_0 : (Nat → Int32)} {t2_0 : (Nat → Int32)} {t3_0 : (Nat → Int32)} {t4_0 : (Nat → Int32)} {W : Nat → Int} {b c : Nat} (hw : wRv t1_0 t2_0 W) (hx2 : 0 ≤ x2.toInt ∧ x2.toInt ≤ 10) (hb : x3.toInt = (b : Int)) (hb2 : 2 ≤ b ∧ b ≤ 36) (hc : yDB b (W x2.toNatClampNeg).natAbs c) : yRt (F_WR_written x2 x3 t0_0 t0_1 t0_2 t0_3 t0_4 t0_5 t0_6 t1_0 t2_0 t3_0 t4_0).1 (F_WR_written x2 x3 t0_0 t0_1 t0_2 t0_3 t0_4 t0_5 t0_6 t1_0 t2_0 t3_0 t4_0).2.2.2.2.2.2.2.2.2 (yWtx b (W x2.toNatClampNeg) c) ∧ (F_WR_written x2 x3 t0_0 t0_1 t0_2 t0_3 t0_4 t0_5 t0_6 t1_0 t2_0 t3_0 t4_0).2.1 = 0 := by
  have e2 : (2 : Int32).toInt = 2 := rfl
  have e36 : (36 : Int32).toInt = 36 := rfl
  unfold F_WR_written
  rw [if_pos (w_no0 hx2), if_neg (show ¬ x3 < 2 from fun c => by have := q_ltI c; omega), if_pos (show x3 ≤ 36 from Int32.le_iff_toInt_le.mpr (by omega))]
  unfold F_WR_written_J24
  rw [if_pos (show (0 : Int32) ≤ 0 by decide)]
  have tk := (R_take (x2 := x2) (t0_0 := 0) (t0_1 := t0_1) (t0_2 := t0_2) (t0_3 := t0_3) (t0_4 := t0_4) (t0_5 := t0_5) (t0_6 := t0_6) (t1_0 := t1_0) (t2_0 := t3_0) hx2 hw.1).2
  have tk2 := y_wkA hw hx2 tk
  refine V_wr50 hw hx2 rfl rfl hb hb2 (hw.lt hx2) rfl ((2100 - (0 : Int32).toInt).toNat + 1) 0 _ t4_0 0 rfl (by omega) (by show 2100 < 2101 + 0; omega) yRt_0 ?_ (fun k => absurd rfl k) c hc
  rw [Nat.pow_zero, Nat.div_one]
  exact tk2
