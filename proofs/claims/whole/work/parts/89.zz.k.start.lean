theorem iB0 : bO 68 0 0 (fun _ => 0) 0 := ⟨⟨by decide, fun i hi => absurd hi (Nat.not_lt_zero i), fun h => absurd h (by decide)⟩, Or.inl rfl, rfl, by decide, by decide⟩
theorem iB1 : bO 108 0 0 (fun _ => 0) 0 := ⟨⟨by decide, fun i hi => absurd hi (Nat.not_lt_zero i), fun h => absurd h (by decide)⟩, Or.inl rfl, rfl, by decide, by decide⟩
theorem iB2 : bO 3 1 0 (upd (fun _ => 0) 0 1) 1 := ⟨⟨by decide, fun i hi => by
    have e : i = 0 := Nat.lt_one_iff.mp hi
    subst e
    exact (by decide : (0 : Int) ≤ (1 : Int32).toInt), fun _ => (by decide : (1 : Int32) ≠ 0)⟩, Or.inl rfl, rfl, by decide, by decide⟩
theorem iR0 : rW 0 0 (fun _ => 0) := ⟨0, iB0, Nat.pow_pos (by decide)⟩
theorem iR1 : rD 0 0 (fun _ => 0) 0 1 := ⟨0, iB1, ⟨1, rfl, ⟨by decide, by decide, fun h => absurd rfl h⟩, by decide⟩, by decide, by decide⟩
theorem iR2 : dO 3 1 0 (upd (fun _ => 0) 0 1) 0 1 1 := ⟨iB2, ⟨1, rfl, ⟨by decide, by decide, fun _ => by decide⟩, by decide⟩, by decide, by decide⟩
theorem iC0 {g : Nat → ClassId} {q : Nat → Nat} {u : va_W} (h : q_fl u 0 (nh_w g q)) : iC g q u := by
  have h' : ∀ (i : Nat) (x : Nat × va_E), (nh_w g q)[i]? = some x → u[i]? = some x := fun i x e => by have z := h i x e; rw [Nat.zero_add] at z; exact z
  refine ⟨fun i hi => ?_, fun i hi => ?_, ?_⟩
  · match i, hi with
    | 0, _ => exact ⟨0, 0, fun _ => 0, h' 66 _ rfl, h' 67 _ rfl, iR0⟩
    | 1, _ => exact ⟨0, 0, fun _ => 0, h' 71 _ rfl, h' 72 _ rfl, iR0⟩
    | 2, _ => exact ⟨0, 0, fun _ => 0, h' 76 _ rfl, h' 77 _ rfl, iR0⟩
    | 3, _ => exact ⟨0, 0, fun _ => 0, h' 81 _ rfl, h' 82 _ rfl, iR0⟩
    | 4, _ => exact ⟨0, 0, fun _ => 0, h' 86 _ rfl, h' 87 _ rfl, iR0⟩
    | 5, _ => exact ⟨0, 0, fun _ => 0, h' 91 _ rfl, h' 92 _ rfl, iR0⟩
    | 6, _ => exact ⟨0, 0, fun _ => 0, h' 96 _ rfl, h' 97 _ rfl, iR0⟩
    | 7, _ => exact ⟨0, 0, fun _ => 0, h' 101 _ rfl, h' 102 _ rfl, iR0⟩
    | 8, _ => exact ⟨0, 0, fun _ => 0, h' 106 _ rfl, h' 107 _ rfl, iR0⟩
    | 9, _ => exact ⟨0, 0, fun _ => 0, h' 111 _ rfl, h' 112 _ rfl, iR0⟩
  · match i, hi with
    | 0, _ => exact ⟨0, 1, 0, 0, fun _ => 0, h' 68 _ rfl, h' 69 _ rfl, h' 70 _ rfl, iR1⟩
    | 1, _ => exact ⟨0, 1, 0, 0, fun _ => 0, h' 73 _ rfl, h' 74 _ rfl, h' 75 _ rfl, iR1⟩
    | 2, _ => exact ⟨0, 1, 0, 0, fun _ => 0, h' 78 _ rfl, h' 79 _ rfl, h' 80 _ rfl, iR1⟩
    | 3, _ => exact ⟨0, 1, 0, 0, fun _ => 0, h' 83 _ rfl, h' 84 _ rfl, h' 85 _ rfl, iR1⟩
    | 4, _ => exact ⟨0, 1, 0, 0, fun _ => 0, h' 88 _ rfl, h' 89 _ rfl, h' 90 _ rfl, iR1⟩
    | 5, _ => exact ⟨0, 1, 0, 0, fun _ => 0, h' 93 _ rfl, h' 94 _ rfl, h' 95 _ rfl, iR1⟩
    | 6, _ => exact ⟨0, 1, 0, 0, fun _ => 0, h' 98 _ rfl, h' 99 _ rfl, h' 100 _ rfl, iR1⟩
    | 7, _ => exact ⟨0, 1, 0, 0, fun _ => 0, h' 103 _ rfl, h' 104 _ rfl, h' 105 _ rfl, iR1⟩
    | 8, _ => exact ⟨0, 1, 0, 0, fun _ => 0, h' 108 _ rfl, h' 109 _ rfl, h' 110 _ rfl, iR1⟩
    | 9, _ => exact ⟨0, 1, 0, 0, fun _ => 0, h' 113 _ rfl, h' 114 _ rfl, h' 115 _ rfl, iR1⟩
  · exact ⟨0, 1, 1, 0, upd (fun _ => 0) 0 1, h' 31 _ rfl, h' 32 _ rfl, h' 33 _ rfl, iR2, rfl⟩
