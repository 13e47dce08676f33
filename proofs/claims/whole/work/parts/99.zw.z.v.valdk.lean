/-! values, for whole: the reference's floats written in hexadecimal -/
theorem y_hxI {x : Int64} {v : Nat} (h : x.toInt = (v : Int)) (hv : v < 16) : x = Int64.ofNat v := by
  have key : ∀ v : Nat, v < 16 → (Int64.ofNat v).toInt = (v : Int) := by decide +kernel
  exact Int64.toInt_inj.mp (by rw [h, key v hv])
theorem y_hxA {x : Int64} {v : Nat} (h : x.toInt = (v : Int)) (hv : v < 16) : (10 ≤ v → (((97 + x) - 10 : Int64).toInt32).toInt = ((yHd v : Nat) : Int)) ∧ (v < 10 → ((48 + x : Int64).toInt32).toInt = ((yHd v : Nat) : Int)) := by
  rw [y_hxI h hv]
  have key : ∀ v : Nat, v < 16 → (10 ≤ v → (((97 + Int64.ofNat v) - 10 : Int64).toInt32).toInt = ((yHd v : Nat) : Int)) ∧ (v < 10 → ((48 + Int64.ofNat v : Int64).toInt32).toInt = ((yHd v : Nat) : Int)) := by decide +kernel
  exact key v hv
theorem V_hxF {x2 : Int64} {t0_0 : Int32} {t0_1 : Int32} {t0_2 : Int32} {t0_3 : Int32} {t0_4 : Int64} {t0_5 : Int32} {t0_6 : Int32} {t0_7 : Int64} {t0_8 : Int32} {t0_9 : Int64} {t0_10 : Int32} {t1_0 : (Nat → Int32)} {v : Nat} {l : List Nat} (hv : x2.toInt = (v : Int)) (h16 : v < 16) (hr : yRt t0_1 t1_0 l) (hl : l.length < 1000000000) : yRt (F_FR_hexadecimalFigure x2 t0_0 t0_1 t0_2 t0_3 t0_4 t0_5 t0_6 t0_7 t0_8 t0_9 t0_10 t1_0).2.1 (F_FR_hexadecimalFigure x2 t0_0 t0_1 t0_2 t0_3 t0_4 t0_5 t0_6 t0_7 t0_8 t0_9 t0_10 t1_0).2.2.2.2.2.2.2.2.2.2.2 (l ++ [yHd v]) ∧ (F_FR_hexadecimalFigure x2 t0_0 t0_1 t0_2 t0_3 t0_4 t0_5 t0_6 t0_7 t0_8 t0_9 t0_10 t1_0).2.2.2.2.2.1 = t0_5 ∧ (F_FR_hexadecimalFigure x2 t0_0 t0_1 t0_2 t0_3 t0_4 t0_5 t0_6 t0_7 t0_8 t0_9 t0_10 t1_0).2.2.2.2.2.2.2.1 = t0_7 ∧ (F_FR_hexadecimalFigure x2 t0_0 t0_1 t0_2 t0_3 t0_4 t0_5 t0_6 t0_7 t0_8 t0_9 t0_10 t1_0).2.2.2.2.2.2.2.2.1 = t0_8 := by
  have e10 : (10 : Int64).toInt = 10 := rfl
  obtain ⟨k1, k2⟩ := y_hxA hv h16
  unfold F_FR_hexadecimalFigure
  by_cases c : 0 ≤ lg_cmp x2 10
  · rw [if_pos c]
    have c := g_lc5 c
    have w := V_rt hr (by omega) (k1 (by omega))
    unfold F_FR_add F_FR_hexadecimalFigure_c27
    exact ⟨w, rfl, rfl, rfl⟩
  · rw [if_neg c]
    have c := g_lc6 c
    have w := V_rt hr (by omega) (k2 (by omega))
    unfold F_FR_add F_FR_hexadecimalFigure_c27_2
    exact ⟨w, rfl, rfl, rfl⟩
theorem V_hxI {K_F_FR_hexadecimal_L135 : Int32 → Int32 → Int32 → Int32 → Int32 → Int64 → Int32 → Int32 → Int64 → Int32 → Int64 → Int32 → (Nat → Int32) → (Int32 × Int32 × Int32 × Int32 × Int32 × Int64 × Int32 × Int32 × Int64 × Int32 × Int64 × Int32 × (Nat → Int32))} {x2 : Int64} {x3 : Int32} {t0_0 : Int32} {t0_1 : Int32} {t0_2 : Int32} {t0_3 : Int32} {t0_4 : Int64} {t0_5 : Int32} {t0_6 : Int32} {t0_7 : Int64} {t0_8 : Int32} {t0_9 : Int64} {t0_10 : Int32} {t1_0 : (Nat → Int32)} {lx24 : Int32} {p76 : (Int32 × Int32 × Int32 × Int32 × Int64 × Int32 × Int32 × Int64 × Int32 × Int64 × Int32)} {p144 : (Int32 × Int32 × Int32 × Int32 × Int64 × Int32 × Int32 × Int64 × Int32 × Int64 × Int32 × (Nat → Int32))} {p206 : (Int32 × Int32 × Int32 × Int32 × Int64 × Int32 × Int32 × Int64 × Int32 × Int64 × Int32 × (Nat → Int32))} {p268 : (Int32 × Int32 × Int32 × Int32 × Int64 × Int32 × Int32 × Int64 × Int32 × Int64 × Int32 × (Nat → Int32))} {y229 : Int32} {y230 : Int32} {y231 : Int32} {y232 : Int32} {y233 : Int64} {y234 : Int32} {y235 : Int32} {y236 : Int64} {y237 : Int32} {y238 : Int64} {y239 : Int32} {f240 : (Nat → Int32)} {lx287 : Int32} {p341 : (Int32 × Int32 × Int32 × Int32 × Int64 × Int32 × Int32 × Int64 × Int32 × Int64 × Int32 × (Nat → Int32))} {p403 : (Int32 × Int32 × Int32 × Int32 × Int64 × Int32 × Int32 × Int64 × Int32 × Int64 × Int32 × (Nat → Int32))} {y364 : Int32} {y365 : Int32} {y366 : Int32} {y367 : Int32} {y368 : Int64} {y369 : Int32} {y370 : Int32} {y371 : Int64} {y372 : Int32} {y373 : Int64} {y374 : Int32} {f375 : (Nat → Int32)} {lx422 : Int64} {lx431 : Int32} {p490 : (Int32 × Int32 × Int32 × Int32 × Int64 × Int32 × Int32 × Int64 × Int32 × Int64 × Int32 × (Nat → Int32))} {lx510 : Int32} {lx511 : Int32} {lx512 : Int32} {lx513 : Int32} {lx514 : Int32} {lx515 : Int64} {lx516 : Int32} {lx517 : Int32} {lx518 : Int64} {lx519 : Int32} {lx520 : Int64} {lx521 : Int32} {lx522 : (Nat → Int32)} {p608 : (Int32 × Int32 × Int32 × Int32 × Int64 × Int32 × Int32 × Int64 × Int32 × Int64 × Int32 × (Nat → Int32))} {y569 : Int32} {y570 : Int32} {y571 : Int32} {y572 : Int32} {y573 : Int64} {y574 : Int32} {y575 : Int32} {y576 : Int64} {y577 : Int32} {y578 : Int64} {y579 : Int32} {f580 : (Nat → Int32)} {lx630 : Int32} {lx639 : Int32} {lx640 : Int32} {lx641 : Int32} {lx642 : Int32} {lx643 : Int64} {lx644 : Int32} {lx645 : Int32} {lx646 : Int64} {lx647 : Int32} {lx648 : Int64} {lx649 : Int32} {lx650 : (Nat → Int32)} {e : Int} {l : List Nat} (hx : lx630.toInt = e) (hb : -1100 ≤ e ∧ e ≤ 2100) (hr : yRt lx640 lx650 l) (hl : l.length ≤ 2000) : yRt (F_FR_hexadecimal_J212 K_F_FR_hexadecimal_L135 x2 x3 t0_0 t0_1 t0_2 t0_3 t0_4 t0_5 t0_6 t0_7 t0_8 t0_9 t0_10 t1_0 lx24 p76 p144 p206 p268 y229 y230 y231 y232 y233 y234 y235 y236 y237 y238 y239 f240 lx287 p341 p403 y364 y365 y366 y367 y368 y369 y370 y371 y372 y373 y374 f375 lx422 lx431 p490 lx510 lx511 lx512 lx513 lx514 lx515 lx516 lx517 lx518 lx519 lx520 lx521 lx522 p608 y569 y570 y571 y572 y573 y574 y575 y576 y577 y578 y579 f580 lx630 lx639 lx640 lx641 lx642 lx643 lx644 lx645 lx646 lx647 lx648 lx649 lx650).1 (F_FR_hexadecimal_J212 K_F_FR_hexadecimal_L135 x2 x3 t0_0 t0_1 t0_2 t0_3 t0_4 t0_5 t0_6 t0_7 t0_8 t0_9 t0_10 t1_0 lx24 p76 p144 p206 p268 y229 y230 y231 y232 y233 y234 y235 y236 y237 y238 y239 f240 lx287 p341 p403 y364 y365 y366 y367 y368 y369 y370 y371 y372 y373 y374 f375 lx422 lx431 p490 lx510 lx511 lx512 lx513 lx514 lx515 lx516 lx517 lx518 lx519 lx520 lx521 lx522 p608 y569 y570 y571 y572 y573 y574 y575 y576 y577 y578 y579 f580 lx630 lx639 lx640 lx641 lx642 lx643 lx644 lx645 lx646 lx647 lx648 lx649 lx650).2.2.2.2.2.2.2.2.2.2.2.2 (l ++ yDs (max (yCt5 e.natAbs) 1) e.natAbs) := by
  have e0 : (0 : Int32).toInt = 0 := rfl
  unfold F_FR_hexadecimal_J212
  by_cases c : 0 ≤ lx630
  · rw [if_pos c]
    have c := q_leI c
    have w := V_FRnum (x2 := lx630) (v := e.natAbs) (t0_0 := lx639) (t0_1 := lx640) (t0_2 := lx641) (t0_3 := lx642) (t0_4 := lx643) (t0_5 := lx644) (t0_6 := lx645) (t0_7 := lx646) (t0_8 := lx647) (t0_9 := lx648) (t0_10 := lx649) (by omega) (by omega) hr (by omega)
    revert w
    generalize F_FR_number lx630 lx639 lx640 lx641 lx642 lx643 lx644 lx645 lx646 lx647 lx648 lx649 lx650 = r
    intro w
    unfold F_FR_hexadecimal_c226
    exact w
  · rw [if_neg c]
    have c := q_nleI c
    have w := V_FRnum (x2 := -lx630) (v := e.natAbs) (t0_0 := lx639) (t0_1 := lx640) (t0_2 := lx641) (t0_3 := lx642) (t0_4 := lx643) (t0_5 := lx644) (t0_6 := lx645) (t0_7 := lx646) (t0_8 := lx647) (t0_9 := lx648) (t0_10 := lx649) (by rw [q_negI hx (by omega)]; omega) (by omega) hr (by omega)
    revert w
    generalize F_FR_number (-lx630) lx639 lx640 lx641 lx642 lx643 lx644 lx645 lx646 lx647 lx648 lx649 lx650 = r
    intro w
    unfold F_FR_hexadecimal_c226_17
    exact w
theorem V_hxJ {K_F_FR_hexadecimal_L135 : Int32 → Int32 → Int32 → Int32 → Int32 → Int64 → Int32 → Int32 → Int64 → Int32 → Int64 → Int32 → (Nat → Int32) → (Int32 × Int32 × Int32 × Int32 × Int32 × Int64 × Int32 × Int32 × Int64 × Int32 × Int64 × Int32 × (Nat → Int32))} {x2 : Int64} {x3 : Int32} {t0_0 : Int32} {t0_1 : Int32} {t0_2 : Int32} {t0_3 : Int32} {t0_4 : Int64} {t0_5 : Int32} {t0_6 : Int32} {t0_7 : Int64} {t0_8 : Int32} {t0_9 : Int64} {t0_10 : Int32} {t1_0 : (Nat → Int32)} {lx24 : Int32} {p76 : (Int32 × Int32 × Int32 × Int32 × Int64 × Int32 × Int32 × Int64 × Int32 × Int64 × Int32)} {p144 : (Int32 × Int32 × Int32 × Int32 × Int64 × Int32 × Int32 × Int64 × Int32 × Int64 × Int32 × (Nat → Int32))} {p206 : (Int32 × Int32 × Int32 × Int32 × Int64 × Int32 × Int32 × Int64 × Int32 × Int64 × Int32 × (Nat → Int32))} {p268 : (Int32 × Int32 × Int32 × Int32 × Int64 × Int32 × Int32 × Int64 × Int32 × Int64 × Int32 × (Nat → Int32))} {y229 : Int32} {y230 : Int32} {y231 : Int32} {y232 : Int32} {y233 : Int64} {y234 : Int32} {y235 : Int32} {y236 : Int64} {y237 : Int32} {y238 : Int64} {y239 : Int32} {f240 : (Nat → Int32)} {lx287 : Int32} {p341 : (Int32 × Int32 × Int32 × Int32 × Int64 × Int32 × Int32 × Int64 × Int32 × Int64 × Int32 × (Nat → Int32))} {p403 : (Int32 × Int32 × Int32 × Int32 × Int64 × Int32 × Int32 × Int64 × Int32 × Int64 × Int32 × (Nat → Int32))} {y364 : Int32} {y365 : Int32} {y366 : Int32} {y367 : Int32} {y368 : Int64} {y369 : Int32} {y370 : Int32} {y371 : Int64} {y372 : Int32} {y373 : Int64} {y374 : Int32} {f375 : (Nat → Int32)} {lx422 : Int64} {lx431 : Int32} {p490 : (Int32 × Int32 × Int32 × Int32 × Int64 × Int32 × Int32 × Int64 × Int32 × Int64 × Int32 × (Nat → Int32))} {lx510 : Int32} {lx511 : Int32} {lx512 : Int32} {lx513 : Int32} {lx514 : Int32} {lx515 : Int64} {lx516 : Int32} {lx517 : Int32} {lx518 : Int64} {lx519 : Int32} {lx520 : Int64} {lx521 : Int32} {lx522 : (Nat → Int32)} {p608 : (Int32 × Int32 × Int32 × Int32 × Int64 × Int32 × Int32 × Int64 × Int32 × Int64 × Int32 × (Nat → Int32))} {y569 : Int32} {y570 : Int32} {y571 : Int32} {y572 : Int32} {y573 : Int64} {y574 : Int32} {y575 : Int32} {y576 : Int64} {y577 : Int32} {y578 : Int64} {y579 : Int32} {f580 : (Nat → Int32)} {lx630 : Int32} {e : Int} {l : List Nat} (hx : lx630.toInt = e) (hb : -1100 ≤ e ∧ e ≤ 2100) (hr : yRt y570 f580 l) (hl : l.length ≤ 1000) : yRt (F_FR_hexadecimal_J199 K_F_FR_hexadecimal_L135 x2 x3 t0_0 t0_1 t0_2 t0_3 t0_4 t0_5 t0_6 t0_7 t0_8 t0_9 t0_10 t1_0 lx24 p76 p144 p206 p268 y229 y230 y231 y232 y233 y234 y235 y236 y237 y238 y239 f240 lx287 p341 p403 y364 y365 y366 y367 y368 y369 y370 y371 y372 y373 y374 f375 lx422 lx431 p490 lx510 lx511 lx512 lx513 lx514 lx515 lx516 lx517 lx518 lx519 lx520 lx521 lx522 p608 y569 y570 y571 y572 y573 y574 y575 y576 y577 y578 y579 f580 lx630).1 (F_FR_hexadecimal_J199 K_F_FR_hexadecimal_L135 x2 x3 t0_0 t0_1 t0_2 t0_3 t0_4 t0_5 t0_6 t0_7 t0_8 t0_9 t0_10 t1_0 lx24 p76 p144 p206 p268 y229 y230 y231 y232 y233 y234 y235 y236 y237 y238 y239 f240 lx287 p341 p403 y364 y365 y366 y367 y368 y369 y370 y371 y372 y373 y374 f375 lx422 lx431 p490 lx510 lx511 lx512 lx513 lx514 lx515 lx516 lx517 lx518 lx519 lx520 lx521 lx522 p608 y569 y570 y571 y572 y573 y574 y575 y576 y577 y578 y579 f580 lx630).2.2.2.2.2.2.2.2.2.2.2.2 (l ++ yPs e) := by
  have e0 : (0 : Int32).toInt = 0 := rfl
  unfold F_FR_hexadecimal_J199 yPs
  by_cases c : 0 ≤ lx630
  · rw [if_pos c]
    have c := q_leI c
    rw [if_neg (by omega : ¬ e < 0), List.nil_append]
    exact V_hxI hx hb hr (by omega)
  · rw [if_neg c]
    have c := q_nleI c
    rw [if_pos (by omega : e < 0), ← List.append_assoc]
    have w1 := V_rt (x := 45) (v := 45) hr (by omega) rfl
    unfold F_FR_add F_FR_hexadecimal_c209
    exact V_hxI hx hb w1 (by rw [List.length_append, List.length_singleton]; omega)
theorem V_hxE {K_F_FR_hexadecimal_L135 : Int32 → Int32 → Int32 → Int32 → Int32 → Int64 → Int32 → Int32 → Int64 → Int32 → Int64 → Int32 → (Nat → Int32) → (Int32 × Int32 × Int32 × Int32 × Int32 × Int64 × Int32 × Int32 × Int64 × Int32 × Int64 × Int32 × (Nat → Int32))} {x2 : Int64} {x3 : Int32} {t0_0 : Int32} {t0_1 : Int32} {t0_2 : Int32} {t0_3 : Int32} {t0_4 : Int64} {t0_5 : Int32} {t0_6 : Int32} {t0_7 : Int64} {t0_8 : Int32} {t0_9 : Int64} {t0_10 : Int32} {t1_0 : (Nat → Int32)} {lx24 : Int32} {p76 : (Int32 × Int32 × Int32 × Int32 × Int64 × Int32 × Int32 × Int64 × Int32 × Int64 × Int32)} {p144 : (Int32 × Int32 × Int32 × Int32 × Int64 × Int32 × Int32 × Int64 × Int32 × Int64 × Int32 × (Nat → Int32))} {p206 : (Int32 × Int32 × Int32 × Int32 × Int64 × Int32 × Int32 × Int64 × Int32 × Int64 × Int32 × (Nat → Int32))} {p268 : (Int32 × Int32 × Int32 × Int32 × Int64 × Int32 × Int32 × Int64 × Int32 × Int64 × Int32 × (Nat → Int32))} {y229 : Int32} {y230 : Int32} {y231 : Int32} {y232 : Int32} {y233 : Int64} {y234 : Int32} {y235 : Int32} {y236 : Int64} {y237 : Int32} {y238 : Int64} {y239 : Int32} {f240 : (Nat → Int32)} {lx287 : Int32} {p341 : (Int32 × Int32 × Int32 × Int32 × Int64 × Int32 × Int32 × Int64 × Int32 × Int64 × Int32 × (Nat → Int32))} {p403 : (Int32 × Int32 × Int32 × Int32 × Int64 × Int32 × Int32 × Int64 × Int32 × Int64 × Int32 × (Nat → Int32))} {y364 : Int32} {y365 : Int32} {y366 : Int32} {y367 : Int32} {y368 : Int64} {y369 : Int32} {y370 : Int32} {y371 : Int64} {y372 : Int32} {y373 : Int64} {y374 : Int32} {f375 : (Nat → Int32)} {lx422 : Int64} {lx431 : Int32} {p490 : (Int32 × Int32 × Int32 × Int32 × Int64 × Int32 × Int32 × Int64 × Int32 × Int64 × Int32 × (Nat → Int32))} {lx510 : Int32} {lx511 : Int32} {lx512 : Int32} {lx513 : Int32} {lx514 : Int32} {lx515 : Int64} {lx516 : Int32} {lx517 : Int32} {lx518 : Int64} {lx519 : Int32} {lx520 : Int64} {lx521 : Int32} {lx522 : (Nat → Int32)} {p608 : (Int32 × Int32 × Int32 × Int32 × Int64 × Int32 × Int32 × Int64 × Int32 × Int64 × Int32 × (Nat → Int32))} {N P : Nat} {q : Int} {l : List Nat} (h7 : p608.2.2.2.2.2.2.2.1.toInt = (N : Int)) (h5 : p608.2.2.2.2.2.1.toInt = (P : Int)) (h8 : p608.2.2.2.2.2.2.2.2.1.toInt = q) (hb : -1074 ≤ q ∧ q ≤ 2000 ∧ P ≤ 52) (hr : yRt p608.2.1 p608.2.2.2.2.2.2.2.2.2.2.2 l) (hl : l.length ≤ 1000) : yRt (F_FR_hexadecimal_c174 K_F_FR_hexadecimal_L135 x2 x3 t0_0 t0_1 t0_2 t0_3 t0_4 t0_5 t0_6 t0_7 t0_8 t0_9 t0_10 t1_0 lx24 p76 p144 p206 p268 y229 y230 y231 y232 y233 y234 y235 y236 y237 y238 y239 f240 lx287 p341 p403 y364 y365 y366 y367 y368 y369 y370 y371 y372 y373 y374 f375 lx422 lx431 p490 lx510 lx511 lx512 lx513 lx514 lx515 lx516 lx517 lx518 lx519 lx520 lx521 lx522 p608).1 (F_FR_hexadecimal_c174 K_F_FR_hexadecimal_L135 x2 x3 t0_0 t0_1 t0_2 t0_3 t0_4 t0_5 t0_6 t0_7 t0_8 t0_9 t0_10 t1_0 lx24 p76 p144 p206 p268 y229 y230 y231 y232 y233 y234 y235 y236 y237 y238 y239 f240 lx287 p341 p403 y364 y365 y366 y367 y368 y369 y370 y371 y372 y373 y374 f375 lx422 lx431 p490 lx510 lx511 lx512 lx513 lx514 lx515 lx516 lx517 lx518 lx519 lx520 lx521 lx522 p608).2.2.2.2.2.2.2.2.2.2.2.2 (l ++ yPs (if N = 0 then 0 else q + P)) := by
  have e0L : (0 : Int64).toInt = 0 := rfl
  unfold F_FR_hexadecimal_c174
  by_cases z : lg_cmp p608.2.2.2.2.2.2.2.1 0 = 0
  · rw [if_pos z]
    have z := g_lcz z
    rw [h7, e0L] at z
    rw [if_pos (by omega : N = 0)]
    exact V_hxJ (lx630 := 0) (e := 0) rfl (by omega) hr hl
  · rw [if_neg z]
    have nz : ¬ N = 0 := fun g => z (y_lcE.mpr (by rw [h7, g]; rfl))
    rw [if_neg nz]
    exact V_hxJ (q_addI h8 h5 (by omega) (by omega)) (by omega) hr hl
theorem y_smA {c : Int32} {k : Nat} (hc : c.toInt = ((4 * k : Nat) : Int)) (hk : k ≤ 12) : ((c.toInt64 &&& 63).toBitVec.smod 64) = BitVec.ofNat 64 (4 * k) := by
  rw [v_amt hc]
  have key : ∀ k : Nat, k < 13 → (((Int32.ofNat (4 * k)).toInt64 &&& 63).toBitVec.smod 64) = BitVec.ofNat 64 (4 * k) := by decide +kernel
  exact key k (by omega)
theorem y_p48 {k : Nat} (hk : k ≤ 12) : (2 : Nat) ^ (4 * k) ≤ 281474976710656 := by
  have key : ∀ k : Nat, k < 13 → (2 : Nat) ^ (4 * k) ≤ 281474976710656 := by decide +kernel
  exact key k (by omega)
theorem y_hxM {x : Int64} {c : Int32} {G k : Nat} (hx : yu x = G) (hc : c.toInt = ((4 * k : Nat) : Int)) (hk : k ≤ 12) : lg_cmp (x &&& ((1 <<< (c.toInt64 &&& 63)) - 1)) 0 = 0 ↔ yHz G k := by
  have e1 : (1 : Int64).toInt = ((1 : Nat) : Int) := rfl
  have e0 : (0 : Int64).toInt = 0 := rfl
  have p48 := y_p48 hk
  have pp : 0 < 2 ^ (4 * k) := Nat.pow_pos (by decide)
  have s := fx_shl (k := 4 * k) e1 (y_smA hc hk) (by omega) (by rw [Nat.one_mul]; omega)
  rw [Nat.one_mul] at s
  have m := q_subL s e1 (by omega) (by omega)
  have n := s_nnL (x := (1 <<< (c.toInt64 &&& 63)) - 1) (by omega)
  have u : yu ((1 <<< (c.toInt64 &&& 63)) - 1) = 2 ^ (4 * k) - 1 := by
    show ((1 <<< (c.toInt64 &&& 63)) - 1).toBitVec.toNat = _
    omega
  have w := y_andM (x := x) u
  rw [hx] at w
  have lt := Nat.mod_lt G pp
  have t := y_toI w (by omega)
  rw [y_lcE, t, e0]
  unfold yHz
  omega
theorem y_hxR {x : Int64} {c : Int32} {G k : Nat} (hx : x.toInt = (G : Int)) (hc : c.toInt = ((4 * k : Nat) : Int)) (hk : k ≤ 12) : ((x >>> (c.toInt64 &&& 63)) &&& 15).toInt = ((yHg G k : Nat) : Int) := by
  have h1 : (x >>> (c.toInt64 &&& 63)).toInt = ((G / 2 ^ (4 * k) : Nat) : Int) := by
    have h : (x >>> (c.toInt64 &&& 63)).toInt = x.toInt / 2 ^ (4 * k) := by
      show (x >>> (c.toInt64 &&& 63)).toBitVec.toInt = _
      rw [Int64.toBitVec_shiftRight, y_smA hc hk, BitVec.sshiftRight_eq', BitVec.toInt_sshiftRight, Int.shiftRight_eq_div_pow]
      have : (BitVec.ofNat 64 (4 * k)).toNat = 4 * k := by
        rw [BitVec.toNat_ofNat]
        exact Nat.mod_eq_of_lt (by omega)
      rw [this]
      rfl
    rw [h, hx, Int.natCast_ediv, Int.natCast_pow]
    rfl
  have n := s_nnL (x := x >>> (c.toInt64 &&& 63)) (by rw [h1]; exact Int.natCast_nonneg _)
  rw [h1] at n
  have w := y_andM (x := x >>> (c.toInt64 &&& 63)) (m := 15) (k := 4) (by decide)
  have u : yu (x >>> (c.toInt64 &&& 63)) = G / 2 ^ (4 * k) := (Int.ofNat.inj n.1).symm
  rw [u] at w
  exact y_toI w (Nat.lt_of_lt_of_le (Nat.mod_lt _ (by decide)) (by decide))
theorem V_hxL {x2 : Int64} {x3 : Int32} {t0_0 : Int32} {t0_1 : Int32} {t0_2 : Int32} {t0_3 : Int32} {t0_4 : Int64} {t0_5 : Int32} {t0_6 : Int32} {t0_7 : Int64} {t0_8 : Int32} {t0_9 : Int64} {t0_10 : Int32} {t1_0 : (Nat → Int32)} {lx24 : Int32} {p76 : (Int32 × Int32 × Int32 × Int32 × Int64 × Int32 × Int32 × Int64 × Int32 × Int64 × Int32)} {p144 : (Int32 × Int32 × Int32 × Int32 × Int64 × Int32 × Int32 × Int64 × Int32 × Int64 × Int32 × (Nat → Int32))} {p206 : (Int32 × Int32 × Int32 × Int32 × Int64 × Int32 × Int32 × Int64 × Int32 × Int64 × Int32 × (Nat → Int32))} {p268 : (Int32 × Int32 × Int32 × Int32 × Int64 × Int32 × Int32 × Int64 × Int32 × Int64 × Int32 × (Nat → Int32))} {y229 : Int32} {y230 : Int32} {y231 : Int32} {y232 : Int32} {y233 : Int64} {y234 : Int32} {y235 : Int32} {y236 : Int64} {y237 : Int32} {y238 : Int64} {y239 : Int32} {f240 : (Nat → Int32)} {lx287 : Int32} {p341 : (Int32 × Int32 × Int32 × Int32 × Int64 × Int32 × Int32 × Int64 × Int32 × Int64 × Int32 × (Nat → Int32))} {p403 : (Int32 × Int32 × Int32 × Int32 × Int64 × Int32 × Int32 × Int64 × Int32 × Int64 × Int32 × (Nat → Int32))} {y364 : Int32} {y365 : Int32} {y366 : Int32} {y367 : Int32} {y368 : Int64} {y369 : Int32} {y370 : Int32} {y371 : Int64} {y372 : Int32} {y373 : Int64} {y374 : Int32} {f375 : (Nat → Int32)} {lx422 : Int64} {lx431 : Int32} {p490 : (Int32 × Int32 × Int32 × Int32 × Int64 × Int32 × Int32 × Int64 × Int32 × Int64 × Int32 × (Nat → Int32))} {N P G : Nat} {q : Int} (hb : -1074 ≤ q ∧ q ≤ 2000 ∧ P ≤ 52) (hG : lx422.toInt = (G : Int)) : ∀ (n : Nat) (lx510 : Int32) (lx511 : Int32) (lx512 : Int32) (lx513 : Int32) (lx514 : Int32) (lx515 : Int64) (lx516 : Int32) (lx517 : Int32) (lx518 : Int64) (lx519 : Int32) (lx520 : Int64) (lx521 : Int32) (lx522 : (Nat → Int32)), ∀ (k : Nat) (l : List Nat), lx510.toInt = ((4 * k : Nat) : Int) → k ≤ 12 → k < n → lx518.toInt = (N : Int) → lx516.toInt = (P : Int) → lx519.toInt = q → yRt lx512 lx522 l → l.length + k ≤ 900 → yRt (F_FR_hexadecimal_L135 x2 x3 t0_0 t0_1 t0_2 t0_3 t0_4 t0_5 t0_6 t0_7 t0_8 t0_9 t0_10 t1_0 lx24 p76 p144 p206 p268 y229 y230 y231 y232 y233 y234 y235 y236 y237 y238 y239 f240 lx287 p341 p403 y364 y365 y366 y367 y368 y369 y370 y371 y372 y373 y374 f375 lx422 lx431 p490 n lx510 lx511 lx512 lx513 lx514 lx515 lx516 lx517 lx518 lx519 lx520 lx521 lx522).1 (F_FR_hexadecimal_L135 x2 x3 t0_0 t0_1 t0_2 t0_3 t0_4 t0_5 t0_6 t0_7 t0_8 t0_9 t0_10 t1_0 lx24 p76 p144 p206 p268 y229 y230 y231 y232 y233 y234 y235 y236 y237 y238 y239 f240 lx287 p341 p403 y364 y365 y366 y367 y368 y369 y370 y371 y372 y373 y374 f375 lx422 lx431 p490 n lx510 lx511 lx512 lx513 lx514 lx515 lx516 lx517 lx518 lx519 lx520 lx521 lx522).2.2.2.2.2.2.2.2.2.2.2.2 (l ++ (yHq G k ++ ([112] ++ yPs (if N = 0 then 0 else q + P)))) := by
  have e4 : (4 : Int32).toInt = 4 := rfl
  have uG : yu lx422 = G := by
    have n := s_nnL (x := lx422) (by rw [hG]; exact Int.natCast_nonneg _)
    rw [hG] at n
    exact (Int.ofNat.inj n.1).symm
  intro n
  induction n with
  | zero =>
    intro lx510 lx511 lx512 lx513 lx514 lx515 lx516 lx517 lx518 lx519 lx520 lx521 lx522 k l g1 g2 g3
    omega
  | succ n ih =>
    intro lx510 lx511 lx512 lx513 lx514 lx515 lx516 lx517 lx518 lx519 lx520 lx521 lx522 k l g1 g2 g3 g4 g5 g6 g7 g8
    rw [F_FR_hexadecimal_L135.eq_2]
    by_cases c : yHz G k
    · rw [if_pos ((y_hxM uG g1 g2).mpr c)]
      have w := V_rt (x := 112) (v := 112) g7 (by omega) rfl
      have e : yHq G k = [] := by
        cases k with
        | zero => rfl
        | succ k => exact if_pos c
      rw [e, List.nil_append, ← List.append_assoc]
      unfold F_FR_add
      exact V_hxE g4 g5 g6 hb w (by rw [List.length_append, List.length_singleton]; omega)
    · rw [if_neg (fun h => c ((y_hxM uG g1 g2).mp h))]
      obtain ⟨m, rfl⟩ : ∃ m, k = m + 1 := by
        cases k with
        | zero => exact absurd (Nat.mod_one G) c
        | succ m => exact ⟨m, rfl⟩
      have s4 : (lx510 - 4).toInt = ((4 * m : Nat) : Int) := by
        rw [q_subI g1 e4 (by omega) (by omega)]
        omega
      have d := y_hxR hG s4 (by omega)
      have w := V_hxF (x2 := (lx422 >>> ((lx510 - 4).toInt64 &&& 63)) &&& 15) (t0_0 := lx511) (t0_1 := lx512) (t0_2 := lx513) (t0_3 := lx514) (t0_4 := lx515) (t0_5 := lx516) (t0_6 := lx517) (t0_7 := lx518) (t0_8 := lx519) (t0_9 := lx520) (t0_10 := lx521) d (yHg_l G m) g7 (by omega)
      revert w
      generalize F_FR_hexadecimalFigure ((lx422 >>> ((lx510 - 4).toInt64 &&& 63)) &&& 15) lx511 lx512 lx513 lx514 lx515 lx516 lx517 lx518 lx519 lx520 lx521 lx522 = p
      intro w
      obtain ⟨w1, w2, w3, w4⟩ := w
      unfold F_FR_hexadecimal_c165
      have e : yHq G (m + 1) = yHd (yHg G m) :: yHq G m := if_neg c
      rw [e]
      have r := ih (lx510 - 4) p.1 p.2.1 p.2.2.1 p.2.2.2.1 p.2.2.2.2.1 p.2.2.2.2.2.1 p.2.2.2.2.2.2.1 p.2.2.2.2.2.2.2.1 p.2.2.2.2.2.2.2.2.1 p.2.2.2.2.2.2.2.2.2.1 p.2.2.2.2.2.2.2.2.2.2.1 p.2.2.2.2.2.2.2.2.2.2.2 m _ s4 (by omega) (by omega) (by rw [w3]; exact g4) (by rw [w2]; exact g5) (by rw [w4]; exact g6) w1 (by rw [List.length_append, List.length_singleton]; omega)
      rw [List.append_assoc] at r
      exact r
