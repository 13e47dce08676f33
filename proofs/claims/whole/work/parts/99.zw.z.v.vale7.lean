/-! values, for whole: a float that is finite has its text to places or figures -/
theorem yFiT_ex {A B C : Int32} {P T : Nat} {l0 : Int} {x : Int64} {x4 x5 x6 : Int32} (hF : yF A B C P T l0) (hfin : yEx P T (yu x) ≠ T) (h5 : (x4 = 0 ∧ 0 ≤ x5.toInt ∧ x5.toInt ≤ 1100) ∨ (x4 ≠ 0 ∧ 1 ≤ x5.toInt ∧ x5.toInt ≤ 800)) (hmd : 0 ≤ x6.toInt ∧ x6.toInt ≤ 3) : ∃ t, yFiT P T l0 (yu x) x4 x5 x6 t := by
  obtain ⟨t, h, _⟩ := V_exF (x3 := x) (x4 := x4) (x5 := x5) (x6 := x6) (t0_0 := 0) (t1_0 := fun _ => 0) (t2_0 := 0) (t2_1 := 0) (t3_0 := fun _ => 0) (t4_0 := 0) (t4_1 := 0) (t5_0 := fun _ => 0) (t6_0 := 0) (t6_1 := 0) (t6_2 := 0) hF hfin h5 hmd
  exact ⟨t, h⟩
