/-! values, for whole: to a scale = divided by one to that scale -/
theorem rGr_e {m b : Int32} {t : Int} (h : t % 10 = 0) : rGr m b 0 t = 0 := by
  unfold rGr
  simp only [h]
  repeat' split
  all_goals first | rfl | (exfalso; omega) | simp_all
theorem y_sF {v : Int} : sXor (sF v) (sF 1) = sF v := by
  unfold sXor sF
  by_cases c : v < 0
  · rw [if_pos c, if_neg (show ¬ (1 : Int) < 0 by decide), if_neg (show ¬ (1 : Int32) = 0 by decide)]
  · rw [if_neg c, if_neg (show ¬ (1 : Int) < 0 by decide), if_pos rfl]
theorem y_toS {m : Int32} {q : Int × Int} {w : Int} : sDiv m q (1, 0) w = sToS m q w := by
  unfold sDiv sToS
  rw [if_neg (show ¬ ((1, 0) : Int × Int).1 = 0 by decide)]
  show (sRnd m (sXor (sF q.1) (sF 1)) (if dvN q.1 (w + 0 - q.2) % dvU 1 (w + 0 - q.2) = 0 then 0 else 1) (dvN q.1 (w + 0 - q.2) / dvU 1 (w + 0 - q.2))).map (fun u => (sgI (sXor (sF q.1) (sF 1)) u, w)) = _
  rw [y_sF, Int.add_zero]
  congr 1
  unfold sRnd sScl dvN dvU
  rw [show ((1 : Int).natAbs : Int) = 1 from rfl, Int.one_mul]
  by_cases c : q.2 ≤ w
  · rw [if_pos c, show (-(w - q.2)).toNat = 0 by omega, Int.pow_zero, Int.emod_one, if_pos rfl, Int.ediv_one]
    generalize (q.1.natAbs : Int) * 10 ^ (w - q.2).toNat = V
    rw [rGr_e (by omega), if_neg (show ¬ (0 : Int32) = 2 by decide)]
    congr 1
    have : (0 : Int32).toInt = 0 := rfl
    omega
  · rw [if_neg c, show (w - q.2).toNat = 0 by omega, Int.pow_zero, Int.mul_one, show (-(w - q.2)).toNat = (q.2 - w).toNat by congr 1; omega]
    obtain ⟨e, he⟩ : ∃ e : Nat, (q.2 - w).toNat = e + 1 := ⟨(q.2 - w).toNat - 1, by omega⟩
    rw [he]
    have st : (if 10 * (q.1.natAbs : Int) % 10 ^ (e + 1) = 0 then (0 : Int32) else 1) = rSt (q.1.natAbs : Int) (e + 1) 0 := by
      unfold rSt
      by_cases d : 10 * (q.1.natAbs : Int) % 10 ^ (e + 1) = 0
      · rw [if_pos d, if_pos ⟨d, rfl⟩]
      · rw [if_neg d, if_neg (fun h => d h.1)]
    rw [st]
    have tv : 10 * (q.1.natAbs : Int) / 10 ^ (e + 1) / 10 = (q.1.natAbs : Int) / 10 ^ (e + 1) := by
      have p : (0 : Int) < 10 ^ (e + 1) := Int.pow_pos (by decide)
      rw [Int.ediv_ediv_of_nonneg (Int.le_of_lt p), Int.mul_comm (10 ^ (e + 1)) 10, Int.mul_ediv_mul_of_pos _ _ (by decide)]
    rw [tv]
