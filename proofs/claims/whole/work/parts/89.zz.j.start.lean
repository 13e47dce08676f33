theorem n_fw0 (q : Nat → Nat) : (va_up (va_up (va_up (va_up (va_up (va_up (va_up (va_up (va_up (va_up (fun _ => none) 0 (some (q 66))) 1 (some (q 71))) 2 (some (q 76))) 3 (some (q 81))) 4 (some (q 86))) 5 (some (q 91))) 6 (some (q 96))) 7 (some (q 101))) 8 (some (q 106))) 9 (some (q 111))) = n_fw q := funext fun j => match j with
  | 0 => rfl
  | 1 => rfl
  | 2 => rfl
  | 3 => rfl
  | 4 => rfl
  | 5 => rfl
  | 6 => rfl
  | 7 => rfl
  | 8 => rfl
  | 9 => rfl
  | j + 10 => by simp [n_fw, va_up]
theorem n_fd0 (q : Nat → Nat) : (va_up (va_up (va_up (va_up (va_up (va_up (va_up (va_up (va_up (va_up (fun _ => none) 0 (some (q 68))) 1 (some (q 73))) 2 (some (q 78))) 3 (some (q 83))) 4 (some (q 88))) 5 (some (q 93))) 6 (some (q 98))) 7 (some (q 103))) 8 (some (q 108))) 9 (some (q 113))) = n_fd q := funext fun j => match j with
  | 0 => rfl
  | 1 => rfl
  | 2 => rfl
  | 3 => rfl
  | 4 => rfl
  | 5 => rfl
  | 6 => rfl
  | 7 => rfl
  | 8 => rfl
  | 9 => rfl
  | j + 10 => by simp [n_fd, va_up]
theorem n_ft0 (q : Nat → Nat) : (va_up (va_up (va_up (va_up (va_up (va_up (va_up (va_up (va_up (fun _ => none) 0 (some (q 48))) 1 (some (q 50))) 2 (some (q 52))) 3 (some (q 54))) 4 (some (q 56))) 5 (some (q 58))) 6 (some (q 60))) 7 (some (q 62))) 8 (some (q 64))) = n_ft q := funext fun j => match j with
  | 0 => rfl
  | 1 => rfl
  | 2 => rfl
  | 3 => rfl
  | 4 => rfl
  | 5 => rfl
  | 6 => rfl
  | 7 => rfl
  | 8 => rfl
  | j + 9 => by simp [n_ft, va_up]
def iL (q : Nat → Nat) : Nat → List q_Ok → va_W → Prop
  | _, [], _ => True
  | _, _ :: _, [] => False
  | k, P :: sh, x :: L => (x.1 = q k ∧ P x.2) ∧ iL q (k + 1) sh L
theorem iL_I {q : Nat → Nat} {u : va_W} : ∀ (sh : List q_Ok) (L : va_W) (k0 : Nat), iL q k0 sh L → q_fl u k0 L → ∀ (k : Nat) (P : q_Ok), sh[k]? = some P → ∃ E, u[k0 + k]? = some (q (k0 + k), E) ∧ P E
  | [], _, _, _, _ => fun k P h => by simp at h
  | _ :: _, [], _, h, _ => h.elim
  | P0 :: sh, x :: L, k0, h, hf => fun k P hk => by
    cases k with
    | zero =>
      have e : P0 = P := by simpa using hk
      subst e
      have hx := hf 0 x rfl
      refine ⟨x.2, ?_, h.1.2⟩
      rw [hx, Nat.add_zero, ← h.1.1]
    | succ k =>
      have hf' : q_fl u (k0 + 1) L := fun i y hi => by
        have z := hf (i + 1) y (by simpa using hi)
        rw [show k0 + 1 + i = k0 + (i + 1) by omega]; exact z
      have z := iL_I sh L (k0 + 1) h.2 hf' k P (by simpa using hk)
      rw [show k0 + (k + 1) = k0 + 1 + k by omega]; exact z
theorem iS0 (g : Nat → ClassId) (q : Nat → Nat) : (k_0 q) (((q 0, .inr (0, [.ref (q 1), .ref (q 3), .ref (q 5), .ref (q 6), .ref (q 7), .ref (q 8), .ref (q 9), .ref (q 30), .ref (q 34), .ref (q 35), .ref (q 36), .ref (q 38), .ref (q 39), .ref (q 40)])) : Nat × va_E)).2 := rfl
theorem iS1 (g : Nat → ClassId) (q : Nat → Nat) : (k_Sht q 1 4100 4100) (((q 1, .inr (1, [.ref (q 2), .int 4100, .int 0])) : Nat × va_E)).2 := ⟨0, rfl, by decide⟩
theorem iS2 (g : Nat → ClassId) (q : Nat → Nat) : (k_al (g 1) (513 : Int32).toNatClampNeg) (((q 2, .inl (g 1, 513, .inr (.inl (fun _ => 0)))) : Nat × va_E)).2 := ⟨fun _ => 0, rfl⟩
theorem iS3 (g : Nat → ClassId) (q : Nat → Nat) : (k_Sht q 3 11008 1000000) (((q 3, .inr (1, [.ref (q 4), .int 11008, .int 0])) : Nat × va_E)).2 := ⟨0, rfl, by decide⟩
theorem iS4 (g : Nat → ClassId) (q : Nat → Nat) : (k_al (g 1) (1376 : Int32).toNatClampNeg) (((q 4, .inl (g 1, 1376, .inr (.inl (fun _ => 0)))) : Nat × va_E)).2 := ⟨fun _ => 0, rfl⟩
theorem iS5 (g : Nat → ClassId) (q : Nat → Nat) : (k_fix (.inl (g 4, 10, .inr (.inr (.inr (.inr (n_fw q))))))) (((q 5, .inl (g 4, 10, .inr (.inr (.inr (.inr (va_up (va_up (va_up (va_up (va_up (va_up (va_up (va_up (va_up (va_up (fun _ => none) 0 (some (q 66))) 1 (some (q 71))) 2 (some (q 76))) 3 (some (q 81))) 4 (some (q 86))) 5 (some (q 91))) 6 (some (q 96))) 7 (some (q 101))) 8 (some (q 106))) 9 (some (q 111)))))))) : Nat × va_E)).2 := congrArg (fun f => (Sum.inl (g 4, 10, .inr (.inr (.inr (.inr f)))) : va_E)) (n_fw0 q)
theorem iS6 (g : Nat → ClassId) (q : Nat → Nat) : (k_fix (.inl (g 5, 10, .inr (.inr (.inr (.inr (n_fd q))))))) (((q 6, .inl (g 5, 10, .inr (.inr (.inr (.inr (va_up (va_up (va_up (va_up (va_up (va_up (va_up (va_up (va_up (va_up (fun _ => none) 0 (some (q 68))) 1 (some (q 73))) 2 (some (q 78))) 3 (some (q 83))) 4 (some (q 88))) 5 (some (q 93))) 6 (some (q 98))) 7 (some (q 103))) 8 (some (q 108))) 9 (some (q 113)))))))) : Nat × va_E)).2 := congrArg (fun f => (Sum.inl (g 5, 10, .inr (.inr (.inr (.inr f)))) : va_E)) (n_fd0 q)
theorem iS7 (g : Nat → ClassId) (q : Nat → Nat) : (k_al (g 1) 10) (((q 7, .inl (g 1, 10, .inr (.inl (fun _ => 0)))) : Nat × va_E)).2 := ⟨fun _ => 0, rfl⟩
theorem iS8 (g : Nat → ClassId) (q : Nat → Nat) : (k_al (g 1) 10) (((q 8, .inl (g 1, 10, .inr (.inl (fun _ => 0)))) : Nat × va_E)).2 := ⟨fun _ => 0, rfl⟩
theorem iS9 (g : Nat → ClassId) (q : Nat → Nat) : (k_9 q) (((q 9, .inr (4, [.ref (q 10), .ref (q 12), .ref (q 14), .ref (q 16), .ref (q 18), .ref (q 20), .ref (q 22), .ref (q 24), .ref (q 26), .ref (q 28)])) : Nat × va_E)).2 := rfl
theorem iS10 (g : Nat → ClassId) (q : Nat → Nat) : (k_Big q 10 220) (((q 10, .inr (2, [.ref (q 11), .int 0, .int 0])) : Nat × va_E)).2 := ⟨0, 0, rfl, by decide, by decide⟩
theorem iS11 (g : Nat → ClassId) (q : Nat → Nat) : (k_ai (g 0) (220 : Int32).toNatClampNeg (-2147483648) 2147483647) (((q 11, .inl (g 0, 220, .inl (fun _ => 0))) : Nat × va_E)).2 := ⟨fun _ => 0, rfl, fun _ => (by decide : (-2147483648 : Int) ≤ (0 : Int32).toInt ∧ (0 : Int32).toInt ≤ 2147483647)⟩
theorem iS12 (g : Nat → ClassId) (q : Nat → Nat) : (k_Big q 12 220) (((q 12, .inr (2, [.ref (q 13), .int 0, .int 0])) : Nat × va_E)).2 := ⟨0, 0, rfl, by decide, by decide⟩
theorem iS13 (g : Nat → ClassId) (q : Nat → Nat) : (k_ai (g 0) (220 : Int32).toNatClampNeg (-2147483648) 2147483647) (((q 13, .inl (g 0, 220, .inl (fun _ => 0))) : Nat × va_E)).2 := ⟨fun _ => 0, rfl, fun _ => (by decide : (-2147483648 : Int) ≤ (0 : Int32).toInt ∧ (0 : Int32).toInt ≤ 2147483647)⟩
theorem iS14 (g : Nat → ClassId) (q : Nat → Nat) : (k_Big q 14 220) (((q 14, .inr (2, [.ref (q 15), .int 0, .int 0])) : Nat × va_E)).2 := ⟨0, 0, rfl, by decide, by decide⟩
theorem iS15 (g : Nat → ClassId) (q : Nat → Nat) : (k_ai (g 0) (220 : Int32).toNatClampNeg (-2147483648) 2147483647) (((q 15, .inl (g 0, 220, .inl (fun _ => 0))) : Nat × va_E)).2 := ⟨fun _ => 0, rfl, fun _ => (by decide : (-2147483648 : Int) ≤ (0 : Int32).toInt ∧ (0 : Int32).toInt ≤ 2147483647)⟩
theorem iS16 (g : Nat → ClassId) (q : Nat → Nat) : (k_Big q 16 220) (((q 16, .inr (2, [.ref (q 17), .int 0, .int 0])) : Nat × va_E)).2 := ⟨0, 0, rfl, by decide, by decide⟩
theorem iS17 (g : Nat → ClassId) (q : Nat → Nat) : (k_ai (g 0) (220 : Int32).toNatClampNeg (-2147483648) 2147483647) (((q 17, .inl (g 0, 220, .inl (fun _ => 0))) : Nat × va_E)).2 := ⟨fun _ => 0, rfl, fun _ => (by decide : (-2147483648 : Int) ≤ (0 : Int32).toInt ∧ (0 : Int32).toInt ≤ 2147483647)⟩
theorem iS18 (g : Nat → ClassId) (q : Nat → Nat) : (k_Big q 18 220) (((q 18, .inr (2, [.ref (q 19), .int 0, .int 0])) : Nat × va_E)).2 := ⟨0, 0, rfl, by decide, by decide⟩
theorem iS19 (g : Nat → ClassId) (q : Nat → Nat) : (k_ai (g 0) (220 : Int32).toNatClampNeg (-2147483648) 2147483647) (((q 19, .inl (g 0, 220, .inl (fun _ => 0))) : Nat × va_E)).2 := ⟨fun _ => 0, rfl, fun _ => (by decide : (-2147483648 : Int) ≤ (0 : Int32).toInt ∧ (0 : Int32).toInt ≤ 2147483647)⟩
theorem iS20 (g : Nat → ClassId) (q : Nat → Nat) : (k_Big q 20 220) (((q 20, .inr (2, [.ref (q 21), .int 0, .int 0])) : Nat × va_E)).2 := ⟨0, 0, rfl, by decide, by decide⟩
theorem iS21 (g : Nat → ClassId) (q : Nat → Nat) : (k_ai (g 0) (220 : Int32).toNatClampNeg (-2147483648) 2147483647) (((q 21, .inl (g 0, 220, .inl (fun _ => 0))) : Nat × va_E)).2 := ⟨fun _ => 0, rfl, fun _ => (by decide : (-2147483648 : Int) ≤ (0 : Int32).toInt ∧ (0 : Int32).toInt ≤ 2147483647)⟩
theorem iS22 (g : Nat → ClassId) (q : Nat → Nat) : (k_Big q 22 220) (((q 22, .inr (2, [.ref (q 23), .int 0, .int 0])) : Nat × va_E)).2 := ⟨0, 0, rfl, by decide, by decide⟩
theorem iS23 (g : Nat → ClassId) (q : Nat → Nat) : (k_ai (g 0) (220 : Int32).toNatClampNeg (-2147483648) 2147483647) (((q 23, .inl (g 0, 220, .inl (fun _ => 0))) : Nat × va_E)).2 := ⟨fun _ => 0, rfl, fun _ => (by decide : (-2147483648 : Int) ≤ (0 : Int32).toInt ∧ (0 : Int32).toInt ≤ 2147483647)⟩
theorem iS24 (g : Nat → ClassId) (q : Nat → Nat) : (k_Big q 24 220) (((q 24, .inr (2, [.ref (q 25), .int 0, .int 0])) : Nat × va_E)).2 := ⟨0, 0, rfl, by decide, by decide⟩
theorem iS25 (g : Nat → ClassId) (q : Nat → Nat) : (k_ai (g 0) (220 : Int32).toNatClampNeg (-2147483648) 2147483647) (((q 25, .inl (g 0, 220, .inl (fun _ => 0))) : Nat × va_E)).2 := ⟨fun _ => 0, rfl, fun _ => (by decide : (-2147483648 : Int) ≤ (0 : Int32).toInt ∧ (0 : Int32).toInt ≤ 2147483647)⟩
theorem iS26 (g : Nat → ClassId) (q : Nat → Nat) : (k_Big q 26 220) (((q 26, .inr (2, [.ref (q 27), .int 0, .int 0])) : Nat × va_E)).2 := ⟨0, 0, rfl, by decide, by decide⟩
theorem iS27 (g : Nat → ClassId) (q : Nat → Nat) : (k_ai (g 0) (220 : Int32).toNatClampNeg (-2147483648) 2147483647) (((q 27, .inl (g 0, 220, .inl (fun _ => 0))) : Nat × va_E)).2 := ⟨fun _ => 0, rfl, fun _ => (by decide : (-2147483648 : Int) ≤ (0 : Int32).toInt ∧ (0 : Int32).toInt ≤ 2147483647)⟩
theorem iS28 (g : Nat → ClassId) (q : Nat → Nat) : (k_Big q 28 220) (((q 28, .inr (2, [.ref (q 29), .int 0, .int 0])) : Nat × va_E)).2 := ⟨0, 0, rfl, by decide, by decide⟩
theorem iS29 (g : Nat → ClassId) (q : Nat → Nat) : (k_ai (g 0) (220 : Int32).toNatClampNeg (-2147483648) 2147483647) (((q 29, .inl (g 0, 220, .inl (fun _ => 0))) : Nat × va_E)).2 := ⟨fun _ => 0, rfl, fun _ => (by decide : (-2147483648 : Int) ≤ (0 : Int32).toInt ∧ (0 : Int32).toInt ≤ 2147483647)⟩
theorem iS30 (g : Nat → ClassId) (q : Nat → Nat) : (k_30 q) (((q 30, .inr (5, [.ref (q 31), .long 0, .ref (q 9), .int 0])) : Nat × va_E)).2 := ⟨0, 0, rfl, by decide⟩
theorem iS31 (g : Nat → ClassId) (q : Nat → Nat) : (k_Dec q 31) (((q 31, .inr (3, [.ref (q 32), .int 0, .int 1])) : Nat × va_E)).2 := ⟨0, 1, rfl, by decide, by decide⟩
theorem iS32 (g : Nat → ClassId) (q : Nat → Nat) : (k_Big q 32 3) (((q 32, .inr (2, [.ref (q 33), .int 1, .int 0])) : Nat × va_E)).2 := ⟨1, 0, rfl, by decide, by decide⟩
theorem iS33 (g : Nat → ClassId) (q : Nat → Nat) : (k_ai (g 0) (3 : Int32).toNatClampNeg (-2147483648) 2147483647) (((q 33, .inl (g 0, 3, .inl (upd (fun _ => 0) 0 1))) : Nat × va_E)).2 := ⟨upd (fun _ => 0) 0 1, rfl, fun i => q_updB (fun _ => (by decide : (-2147483648 : Int) ≤ (0 : Int32).toInt ∧ (0 : Int32).toInt ≤ 2147483647)) (by decide : (-2147483648 : Int) ≤ (1 : Int32).toInt ∧ (1 : Int32).toInt ≤ 2147483647) i⟩
theorem iS34 (g : Nat → ClassId) (q : Nat → Nat) : (k_Flo q 52 1075 2047) (((q 34, .inr (6, [.int 52, .int 1075, .int 2047, .long 0, .int 0, .ref (q 9), .int 0])) : Nat × va_E)).2 := ⟨0, 0, 0, rfl⟩
theorem iS35 (g : Nat → ClassId) (q : Nat → Nat) : (k_Flo q 23 150 255) (((q 35, .inr (6, [.int 23, .int 150, .int 255, .long 0, .int 0, .ref (q 9), .int 0])) : Nat × va_E)).2 := ⟨0, 0, 0, rfl⟩
theorem iS36 (g : Nat → ClassId) (q : Nat → Nat) : (k_36 q) (((q 36, .inr (7, [.int 0, .int 0, .ref (q 37)])) : Nat × va_E)).2 := ⟨0, 0, rfl, by decide, by decide⟩
theorem iS37 (g : Nat → ClassId) (q : Nat → Nat) : (k_ai (g 2) 1026 (-2147483648) 2147483647) (((q 37, .inl (g 2, 1026, .inl (fun _ => 0))) : Nat × va_E)).2 := ⟨fun _ => 0, rfl, fun _ => (by decide : (-2147483648 : Int) ≤ (0 : Int32).toInt ∧ (0 : Int32).toInt ≤ 2147483647)⟩
theorem iS38 (g : Nat → ClassId) (q : Nat → Nat) : (k_38 q) (((q 38, .inr (8, [.long 0, .long 0, .ref (q 1), .ref (q 9), .int 0, .int 0, .int 0, .int 0, .int 0, .int 0, .int 0, .long 0])) : Nat × va_E)).2 := ⟨0, 0, 0, 0, 0, 0, 0, 0, 0, 0, rfl, by decide, by decide⟩
theorem iS39 (g : Nat → ClassId) (q : Nat → Nat) : (k_39 q) (((q 39, .inr (9, [.ref (q 3), .ref (q 9), .ref (q 36)])) : Nat × va_E)).2 := rfl
theorem iS40 (g : Nat → ClassId) (q : Nat → Nat) : (k_40 q) (((q 40, .inr (11, [.int 0, .ref (q 41), .ref (q 42), .ref (q 43), .ref (q 44), .ref (q 1), .ref (q 47), .ref (q 36), .ref (q 45), .int 0, .int 0, .int 0])) : Nat × va_E)).2 := ⟨0, 0, 0, 0, rfl, by decide, by decide, by decide⟩
theorem iS41 (g : Nat → ClassId) (q : Nat → Nat) : (k_ai (g 0) 9 (-2147483648) 2147483647) (((q 41, .inl (g 0, 9, .inl (fun _ => 0))) : Nat × va_E)).2 := ⟨fun _ => 0, rfl, fun _ => (by decide : (-2147483648 : Int) ≤ (0 : Int32).toInt ∧ (0 : Int32).toInt ≤ 2147483647)⟩
theorem iS42 (g : Nat → ClassId) (q : Nat → Nat) : (k_al (g 1) 9) (((q 42, .inl (g 1, 9, .inr (.inl (fun _ => 0)))) : Nat × va_E)).2 := ⟨fun _ => 0, rfl⟩
theorem iS43 (g : Nat → ClassId) (q : Nat → Nat) : (k_ai (g 0) 9 (-10000) 10000) (((q 43, .inl (g 0, 9, .inl (fun _ => 0))) : Nat × va_E)).2 := ⟨fun _ => 0, rfl, fun _ => (by decide : (-10000 : Int) ≤ (0 : Int32).toInt ∧ (0 : Int32).toInt ≤ 10000)⟩
theorem iS44 (g : Nat → ClassId) (q : Nat → Nat) : (k_fix (.inl (g 6, 9, .inr (.inr (.inr (.inr (n_ft q))))))) (((q 44, .inl (g 6, 9, .inr (.inr (.inr (.inr (va_up (va_up (va_up (va_up (va_up (va_up (va_up (va_up (va_up (fun _ => none) 0 (some (q 48))) 1 (some (q 50))) 2 (some (q 52))) 3 (some (q 54))) 4 (some (q 56))) 5 (some (q 58))) 6 (some (q 60))) 7 (some (q 62))) 8 (some (q 64)))))))) : Nat × va_E)).2 := congrArg (fun f => (Sum.inl (g 6, 9, .inr (.inr (.inr (.inr f)))) : va_E)) (n_ft0 q)
theorem iS45 (g : Nat → ClassId) (q : Nat → Nat) : (k_Sht q 45 4104 1000000) (((q 45, .inr (1, [.ref (q 46), .int 4104, .int 0])) : Nat × va_E)).2 := ⟨0, rfl, by decide⟩
theorem iS46 (g : Nat → ClassId) (q : Nat → Nat) : (k_al (g 1) (513 : Int32).toNatClampNeg) (((q 46, .inl (g 1, 513, .inr (.inl (fun _ => 0)))) : Nat × va_E)).2 := ⟨fun _ => 0, rfl⟩
theorem iS47 (g : Nat → ClassId) (q : Nat → Nat) : (k_47 q) (((q 47, .inr (10, [.int 0, .int 0, .int 0, .int 0, .int 0, .int 0, .ref (q 1), .int 0])) : Nat × va_E)).2 := ⟨0, 0, 0, 0, 0, 0, 0, rfl, by decide, by decide, by decide⟩
theorem iS48 (g : Nat → ClassId) (q : Nat → Nat) : (k_Sht q 48 64 64) (((q 48, .inr (1, [.ref (q 49), .int 64, .int 0])) : Nat × va_E)).2 := ⟨0, rfl, by decide⟩
theorem iS49 (g : Nat → ClassId) (q : Nat → Nat) : (k_al (g 1) (8 : Int32).toNatClampNeg) (((q 49, .inl (g 1, 8, .inr (.inl (fun _ => 0)))) : Nat × va_E)).2 := ⟨fun _ => 0, rfl⟩
theorem iS50 (g : Nat → ClassId) (q : Nat → Nat) : (k_Sht q 50 64 64) (((q 50, .inr (1, [.ref (q 51), .int 64, .int 0])) : Nat × va_E)).2 := ⟨0, rfl, by decide⟩
theorem iS51 (g : Nat → ClassId) (q : Nat → Nat) : (k_al (g 1) (8 : Int32).toNatClampNeg) (((q 51, .inl (g 1, 8, .inr (.inl (fun _ => 0)))) : Nat × va_E)).2 := ⟨fun _ => 0, rfl⟩
theorem iS52 (g : Nat → ClassId) (q : Nat → Nat) : (k_Sht q 52 64 64) (((q 52, .inr (1, [.ref (q 53), .int 64, .int 0])) : Nat × va_E)).2 := ⟨0, rfl, by decide⟩
theorem iS53 (g : Nat → ClassId) (q : Nat → Nat) : (k_al (g 1) (8 : Int32).toNatClampNeg) (((q 53, .inl (g 1, 8, .inr (.inl (fun _ => 0)))) : Nat × va_E)).2 := ⟨fun _ => 0, rfl⟩
theorem iS54 (g : Nat → ClassId) (q : Nat → Nat) : (k_Sht q 54 64 64) (((q 54, .inr (1, [.ref (q 55), .int 64, .int 0])) : Nat × va_E)).2 := ⟨0, rfl, by decide⟩
theorem iS55 (g : Nat → ClassId) (q : Nat → Nat) : (k_al (g 1) (8 : Int32).toNatClampNeg) (((q 55, .inl (g 1, 8, .inr (.inl (fun _ => 0)))) : Nat × va_E)).2 := ⟨fun _ => 0, rfl⟩
theorem iS56 (g : Nat → ClassId) (q : Nat → Nat) : (k_Sht q 56 64 64) (((q 56, .inr (1, [.ref (q 57), .int 64, .int 0])) : Nat × va_E)).2 := ⟨0, rfl, by decide⟩
theorem iS57 (g : Nat → ClassId) (q : Nat → Nat) : (k_al (g 1) (8 : Int32).toNatClampNeg) (((q 57, .inl (g 1, 8, .inr (.inl (fun _ => 0)))) : Nat × va_E)).2 := ⟨fun _ => 0, rfl⟩
theorem iS58 (g : Nat → ClassId) (q : Nat → Nat) : (k_Sht q 58 64 64) (((q 58, .inr (1, [.ref (q 59), .int 64, .int 0])) : Nat × va_E)).2 := ⟨0, rfl, by decide⟩
theorem iS59 (g : Nat → ClassId) (q : Nat → Nat) : (k_al (g 1) (8 : Int32).toNatClampNeg) (((q 59, .inl (g 1, 8, .inr (.inl (fun _ => 0)))) : Nat × va_E)).2 := ⟨fun _ => 0, rfl⟩
theorem iS60 (g : Nat → ClassId) (q : Nat → Nat) : (k_Sht q 60 64 64) (((q 60, .inr (1, [.ref (q 61), .int 64, .int 0])) : Nat × va_E)).2 := ⟨0, rfl, by decide⟩
theorem iS61 (g : Nat → ClassId) (q : Nat → Nat) : (k_al (g 1) (8 : Int32).toNatClampNeg) (((q 61, .inl (g 1, 8, .inr (.inl (fun _ => 0)))) : Nat × va_E)).2 := ⟨fun _ => 0, rfl⟩
theorem iS62 (g : Nat → ClassId) (q : Nat → Nat) : (k_Sht q 62 64 64) (((q 62, .inr (1, [.ref (q 63), .int 64, .int 0])) : Nat × va_E)).2 := ⟨0, rfl, by decide⟩
theorem iS63 (g : Nat → ClassId) (q : Nat → Nat) : (k_al (g 1) (8 : Int32).toNatClampNeg) (((q 63, .inl (g 1, 8, .inr (.inl (fun _ => 0)))) : Nat × va_E)).2 := ⟨fun _ => 0, rfl⟩
theorem iS64 (g : Nat → ClassId) (q : Nat → Nat) : (k_Sht q 64 64 64) (((q 64, .inr (1, [.ref (q 65), .int 64, .int 0])) : Nat × va_E)).2 := ⟨0, rfl, by decide⟩
theorem iS65 (g : Nat → ClassId) (q : Nat → Nat) : (k_al (g 1) (8 : Int32).toNatClampNeg) (((q 65, .inl (g 1, 8, .inr (.inl (fun _ => 0)))) : Nat × va_E)).2 := ⟨fun _ => 0, rfl⟩
theorem iS66 (g : Nat → ClassId) (q : Nat → Nat) : (k_Big q 66 68) (((q 66, .inr (2, [.ref (q 67), .int 0, .int 0])) : Nat × va_E)).2 := ⟨0, 0, rfl, by decide, by decide⟩
theorem iS67 (g : Nat → ClassId) (q : Nat → Nat) : (k_ai (g 0) (68 : Int32).toNatClampNeg (-2147483648) 2147483647) (((q 67, .inl (g 0, 68, .inl (fun _ => 0))) : Nat × va_E)).2 := ⟨fun _ => 0, rfl, fun _ => (by decide : (-2147483648 : Int) ≤ (0 : Int32).toInt ∧ (0 : Int32).toInt ≤ 2147483647)⟩
theorem iS68 (g : Nat → ClassId) (q : Nat → Nat) : (k_Dec q 68) (((q 68, .inr (3, [.ref (q 69), .int 0, .int 1])) : Nat × va_E)).2 := ⟨0, 1, rfl, by decide, by decide⟩
theorem iS69 (g : Nat → ClassId) (q : Nat → Nat) : (k_Big q 69 108) (((q 69, .inr (2, [.ref (q 70), .int 0, .int 0])) : Nat × va_E)).2 := ⟨0, 0, rfl, by decide, by decide⟩
theorem iS70 (g : Nat → ClassId) (q : Nat → Nat) : (k_ai (g 0) (108 : Int32).toNatClampNeg (-2147483648) 2147483647) (((q 70, .inl (g 0, 108, .inl (fun _ => 0))) : Nat × va_E)).2 := ⟨fun _ => 0, rfl, fun _ => (by decide : (-2147483648 : Int) ≤ (0 : Int32).toInt ∧ (0 : Int32).toInt ≤ 2147483647)⟩
theorem iS71 (g : Nat → ClassId) (q : Nat → Nat) : (k_Big q 71 68) (((q 71, .inr (2, [.ref (q 72), .int 0, .int 0])) : Nat × va_E)).2 := ⟨0, 0, rfl, by decide, by decide⟩
theorem iS72 (g : Nat → ClassId) (q : Nat → Nat) : (k_ai (g 0) (68 : Int32).toNatClampNeg (-2147483648) 2147483647) (((q 72, .inl (g 0, 68, .inl (fun _ => 0))) : Nat × va_E)).2 := ⟨fun _ => 0, rfl, fun _ => (by decide : (-2147483648 : Int) ≤ (0 : Int32).toInt ∧ (0 : Int32).toInt ≤ 2147483647)⟩
theorem iS73 (g : Nat → ClassId) (q : Nat → Nat) : (k_Dec q 73) (((q 73, .inr (3, [.ref (q 74), .int 0, .int 1])) : Nat × va_E)).2 := ⟨0, 1, rfl, by decide, by decide⟩
theorem iS74 (g : Nat → ClassId) (q : Nat → Nat) : (k_Big q 74 108) (((q 74, .inr (2, [.ref (q 75), .int 0, .int 0])) : Nat × va_E)).2 := ⟨0, 0, rfl, by decide, by decide⟩
theorem iS75 (g : Nat → ClassId) (q : Nat → Nat) : (k_ai (g 0) (108 : Int32).toNatClampNeg (-2147483648) 2147483647) (((q 75, .inl (g 0, 108, .inl (fun _ => 0))) : Nat × va_E)).2 := ⟨fun _ => 0, rfl, fun _ => (by decide : (-2147483648 : Int) ≤ (0 : Int32).toInt ∧ (0 : Int32).toInt ≤ 2147483647)⟩
theorem iS76 (g : Nat → ClassId) (q : Nat → Nat) : (k_Big q 76 68) (((q 76, .inr (2, [.ref (q 77), .int 0, .int 0])) : Nat × va_E)).2 := ⟨0, 0, rfl, by decide, by decide⟩
theorem iS77 (g : Nat → ClassId) (q : Nat → Nat) : (k_ai (g 0) (68 : Int32).toNatClampNeg (-2147483648) 2147483647) (((q 77, .inl (g 0, 68, .inl (fun _ => 0))) : Nat × va_E)).2 := ⟨fun _ => 0, rfl, fun _ => (by decide : (-2147483648 : Int) ≤ (0 : Int32).toInt ∧ (0 : Int32).toInt ≤ 2147483647)⟩
theorem iS78 (g : Nat → ClassId) (q : Nat → Nat) : (k_Dec q 78) (((q 78, .inr (3, [.ref (q 79), .int 0, .int 1])) : Nat × va_E)).2 := ⟨0, 1, rfl, by decide, by decide⟩
theorem iS79 (g : Nat → ClassId) (q : Nat → Nat) : (k_Big q 79 108) (((q 79, .inr (2, [.ref (q 80), .int 0, .int 0])) : Nat × va_E)).2 := ⟨0, 0, rfl, by decide, by decide⟩
theorem iS80 (g : Nat → ClassId) (q : Nat → Nat) : (k_ai (g 0) (108 : Int32).toNatClampNeg (-2147483648) 2147483647) (((q 80, .inl (g 0, 108, .inl (fun _ => 0))) : Nat × va_E)).2 := ⟨fun _ => 0, rfl, fun _ => (by decide : (-2147483648 : Int) ≤ (0 : Int32).toInt ∧ (0 : Int32).toInt ≤ 2147483647)⟩
theorem iS81 (g : Nat → ClassId) (q : Nat → Nat) : (k_Big q 81 68) (((q 81, .inr (2, [.ref (q 82), .int 0, .int 0])) : Nat × va_E)).2 := ⟨0, 0, rfl, by decide, by decide⟩
theorem iS82 (g : Nat → ClassId) (q : Nat → Nat) : (k_ai (g 0) (68 : Int32).toNatClampNeg (-2147483648) 2147483647) (((q 82, .inl (g 0, 68, .inl (fun _ => 0))) : Nat × va_E)).2 := ⟨fun _ => 0, rfl, fun _ => (by decide : (-2147483648 : Int) ≤ (0 : Int32).toInt ∧ (0 : Int32).toInt ≤ 2147483647)⟩
theorem iS83 (g : Nat → ClassId) (q : Nat → Nat) : (k_Dec q 83) (((q 83, .inr (3, [.ref (q 84), .int 0, .int 1])) : Nat × va_E)).2 := ⟨0, 1, rfl, by decide, by decide⟩
theorem iS84 (g : Nat → ClassId) (q : Nat → Nat) : (k_Big q 84 108) (((q 84, .inr (2, [.ref (q 85), .int 0, .int 0])) : Nat × va_E)).2 := ⟨0, 0, rfl, by decide, by decide⟩
theorem iS85 (g : Nat → ClassId) (q : Nat → Nat) : (k_ai (g 0) (108 : Int32).toNatClampNeg (-2147483648) 2147483647) (((q 85, .inl (g 0, 108, .inl (fun _ => 0))) : Nat × va_E)).2 := ⟨fun _ => 0, rfl, fun _ => (by decide : (-2147483648 : Int) ≤ (0 : Int32).toInt ∧ (0 : Int32).toInt ≤ 2147483647)⟩
theorem iS86 (g : Nat → ClassId) (q : Nat → Nat) : (k_Big q 86 68) (((q 86, .inr (2, [.ref (q 87), .int 0, .int 0])) : Nat × va_E)).2 := ⟨0, 0, rfl, by decide, by decide⟩
theorem iS87 (g : Nat → ClassId) (q : Nat → Nat) : (k_ai (g 0) (68 : Int32).toNatClampNeg (-2147483648) 2147483647) (((q 87, .inl (g 0, 68, .inl (fun _ => 0))) : Nat × va_E)).2 := ⟨fun _ => 0, rfl, fun _ => (by decide : (-2147483648 : Int) ≤ (0 : Int32).toInt ∧ (0 : Int32).toInt ≤ 2147483647)⟩
theorem iS88 (g : Nat → ClassId) (q : Nat → Nat) : (k_Dec q 88) (((q 88, .inr (3, [.ref (q 89), .int 0, .int 1])) : Nat × va_E)).2 := ⟨0, 1, rfl, by decide, by decide⟩
theorem iS89 (g : Nat → ClassId) (q : Nat → Nat) : (k_Big q 89 108) (((q 89, .inr (2, [.ref (q 90), .int 0, .int 0])) : Nat × va_E)).2 := ⟨0, 0, rfl, by decide, by decide⟩
theorem iS90 (g : Nat → ClassId) (q : Nat → Nat) : (k_ai (g 0) (108 : Int32).toNatClampNeg (-2147483648) 2147483647) (((q 90, .inl (g 0, 108, .inl (fun _ => 0))) : Nat × va_E)).2 := ⟨fun _ => 0, rfl, fun _ => (by decide : (-2147483648 : Int) ≤ (0 : Int32).toInt ∧ (0 : Int32).toInt ≤ 2147483647)⟩
theorem iS91 (g : Nat → ClassId) (q : Nat → Nat) : (k_Big q 91 68) (((q 91, .inr (2, [.ref (q 92), .int 0, .int 0])) : Nat × va_E)).2 := ⟨0, 0, rfl, by decide, by decide⟩
theorem iS92 (g : Nat → ClassId) (q : Nat → Nat) : (k_ai (g 0) (68 : Int32).toNatClampNeg (-2147483648) 2147483647) (((q 92, .inl (g 0, 68, .inl (fun _ => 0))) : Nat × va_E)).2 := ⟨fun _ => 0, rfl, fun _ => (by decide : (-2147483648 : Int) ≤ (0 : Int32).toInt ∧ (0 : Int32).toInt ≤ 2147483647)⟩
theorem iS93 (g : Nat → ClassId) (q : Nat → Nat) : (k_Dec q 93) (((q 93, .inr (3, [.ref (q 94), .int 0, .int 1])) : Nat × va_E)).2 := ⟨0, 1, rfl, by decide, by decide⟩
theorem iS94 (g : Nat → ClassId) (q : Nat → Nat) : (k_Big q 94 108) (((q 94, .inr (2, [.ref (q 95), .int 0, .int 0])) : Nat × va_E)).2 := ⟨0, 0, rfl, by decide, by decide⟩
theorem iS95 (g : Nat → ClassId) (q : Nat → Nat) : (k_ai (g 0) (108 : Int32).toNatClampNeg (-2147483648) 2147483647) (((q 95, .inl (g 0, 108, .inl (fun _ => 0))) : Nat × va_E)).2 := ⟨fun _ => 0, rfl, fun _ => (by decide : (-2147483648 : Int) ≤ (0 : Int32).toInt ∧ (0 : Int32).toInt ≤ 2147483647)⟩
theorem iS96 (g : Nat → ClassId) (q : Nat → Nat) : (k_Big q 96 68) (((q 96, .inr (2, [.ref (q 97), .int 0, .int 0])) : Nat × va_E)).2 := ⟨0, 0, rfl, by decide, by decide⟩
theorem iS97 (g : Nat → ClassId) (q : Nat → Nat) : (k_ai (g 0) (68 : Int32).toNatClampNeg (-2147483648) 2147483647) (((q 97, .inl (g 0, 68, .inl (fun _ => 0))) : Nat × va_E)).2 := ⟨fun _ => 0, rfl, fun _ => (by decide : (-2147483648 : Int) ≤ (0 : Int32).toInt ∧ (0 : Int32).toInt ≤ 2147483647)⟩
theorem iS98 (g : Nat → ClassId) (q : Nat → Nat) : (k_Dec q 98) (((q 98, .inr (3, [.ref (q 99), .int 0, .int 1])) : Nat × va_E)).2 := ⟨0, 1, rfl, by decide, by decide⟩
theorem iS99 (g : Nat → ClassId) (q : Nat → Nat) : (k_Big q 99 108) (((q 99, .inr (2, [.ref (q 100), .int 0, .int 0])) : Nat × va_E)).2 := ⟨0, 0, rfl, by decide, by decide⟩
theorem iS100 (g : Nat → ClassId) (q : Nat → Nat) : (k_ai (g 0) (108 : Int32).toNatClampNeg (-2147483648) 2147483647) (((q 100, .inl (g 0, 108, .inl (fun _ => 0))) : Nat × va_E)).2 := ⟨fun _ => 0, rfl, fun _ => (by decide : (-2147483648 : Int) ≤ (0 : Int32).toInt ∧ (0 : Int32).toInt ≤ 2147483647)⟩
theorem iS101 (g : Nat → ClassId) (q : Nat → Nat) : (k_Big q 101 68) (((q 101, .inr (2, [.ref (q 102), .int 0, .int 0])) : Nat × va_E)).2 := ⟨0, 0, rfl, by decide, by decide⟩
theorem iS102 (g : Nat → ClassId) (q : Nat → Nat) : (k_ai (g 0) (68 : Int32).toNatClampNeg (-2147483648) 2147483647) (((q 102, .inl (g 0, 68, .inl (fun _ => 0))) : Nat × va_E)).2 := ⟨fun _ => 0, rfl, fun _ => (by decide : (-2147483648 : Int) ≤ (0 : Int32).toInt ∧ (0 : Int32).toInt ≤ 2147483647)⟩
theorem iS103 (g : Nat → ClassId) (q : Nat → Nat) : (k_Dec q 103) (((q 103, .inr (3, [.ref (q 104), .int 0, .int 1])) : Nat × va_E)).2 := ⟨0, 1, rfl, by decide, by decide⟩
theorem iS104 (g : Nat → ClassId) (q : Nat → Nat) : (k_Big q 104 108) (((q 104, .inr (2, [.ref (q 105), .int 0, .int 0])) : Nat × va_E)).2 := ⟨0, 0, rfl, by decide, by decide⟩
theorem iS105 (g : Nat → ClassId) (q : Nat → Nat) : (k_ai (g 0) (108 : Int32).toNatClampNeg (-2147483648) 2147483647) (((q 105, .inl (g 0, 108, .inl (fun _ => 0))) : Nat × va_E)).2 := ⟨fun _ => 0, rfl, fun _ => (by decide : (-2147483648 : Int) ≤ (0 : Int32).toInt ∧ (0 : Int32).toInt ≤ 2147483647)⟩
theorem iS106 (g : Nat → ClassId) (q : Nat → Nat) : (k_Big q 106 68) (((q 106, .inr (2, [.ref (q 107), .int 0, .int 0])) : Nat × va_E)).2 := ⟨0, 0, rfl, by decide, by decide⟩
theorem iS107 (g : Nat → ClassId) (q : Nat → Nat) : (k_ai (g 0) (68 : Int32).toNatClampNeg (-2147483648) 2147483647) (((q 107, .inl (g 0, 68, .inl (fun _ => 0))) : Nat × va_E)).2 := ⟨fun _ => 0, rfl, fun _ => (by decide : (-2147483648 : Int) ≤ (0 : Int32).toInt ∧ (0 : Int32).toInt ≤ 2147483647)⟩
theorem iS108 (g : Nat → ClassId) (q : Nat → Nat) : (k_Dec q 108) (((q 108, .inr (3, [.ref (q 109), .int 0, .int 1])) : Nat × va_E)).2 := ⟨0, 1, rfl, by decide, by decide⟩
theorem iS109 (g : Nat → ClassId) (q : Nat → Nat) : (k_Big q 109 108) (((q 109, .inr (2, [.ref (q 110), .int 0, .int 0])) : Nat × va_E)).2 := ⟨0, 0, rfl, by decide, by decide⟩
theorem iS110 (g : Nat → ClassId) (q : Nat → Nat) : (k_ai (g 0) (108 : Int32).toNatClampNeg (-2147483648) 2147483647) (((q 110, .inl (g 0, 108, .inl (fun _ => 0))) : Nat × va_E)).2 := ⟨fun _ => 0, rfl, fun _ => (by decide : (-2147483648 : Int) ≤ (0 : Int32).toInt ∧ (0 : Int32).toInt ≤ 2147483647)⟩
theorem iS111 (g : Nat → ClassId) (q : Nat → Nat) : (k_Big q 111 68) (((q 111, .inr (2, [.ref (q 112), .int 0, .int 0])) : Nat × va_E)).2 := ⟨0, 0, rfl, by decide, by decide⟩
theorem iS112 (g : Nat → ClassId) (q : Nat → Nat) : (k_ai (g 0) (68 : Int32).toNatClampNeg (-2147483648) 2147483647) (((q 112, .inl (g 0, 68, .inl (fun _ => 0))) : Nat × va_E)).2 := ⟨fun _ => 0, rfl, fun _ => (by decide : (-2147483648 : Int) ≤ (0 : Int32).toInt ∧ (0 : Int32).toInt ≤ 2147483647)⟩
theorem iS113 (g : Nat → ClassId) (q : Nat → Nat) : (k_Dec q 113) (((q 113, .inr (3, [.ref (q 114), .int 0, .int 1])) : Nat × va_E)).2 := ⟨0, 1, rfl, by decide, by decide⟩
theorem iS114 (g : Nat → ClassId) (q : Nat → Nat) : (k_Big q 114 108) (((q 114, .inr (2, [.ref (q 115), .int 0, .int 0])) : Nat × va_E)).2 := ⟨0, 0, rfl, by decide, by decide⟩
theorem iS115 (g : Nat → ClassId) (q : Nat → Nat) : (k_ai (g 0) (108 : Int32).toNatClampNeg (-2147483648) 2147483647) (((q 115, .inl (g 0, 108, .inl (fun _ => 0))) : Nat × va_E)).2 := ⟨fun _ => 0, rfl, fun _ => (by decide : (-2147483648 : Int) ≤ (0 : Int32).toInt ∧ (0 : Int32).toInt ≤ 2147483647)⟩
set_option maxRecDepth 100000 in
theorem iS (g : Nat → ClassId) (q : Nat → Nat) : iL q 0 (nsh g q) (nh_w g q) := ⟨⟨rfl, iS0 g q⟩, ⟨⟨rfl, iS1 g q⟩, ⟨⟨rfl, iS2 g q⟩, ⟨⟨rfl, iS3 g q⟩, ⟨⟨rfl, iS4 g q⟩, ⟨⟨rfl, iS5 g q⟩, ⟨⟨rfl, iS6 g q⟩, ⟨⟨rfl, iS7 g q⟩, ⟨⟨rfl, iS8 g q⟩, ⟨⟨rfl, iS9 g q⟩, ⟨⟨rfl, iS10 g q⟩, ⟨⟨rfl, iS11 g q⟩, ⟨⟨rfl, iS12 g q⟩, ⟨⟨rfl, iS13 g q⟩, ⟨⟨rfl, iS14 g q⟩, ⟨⟨rfl, iS15 g q⟩, ⟨⟨rfl, iS16 g q⟩, ⟨⟨rfl, iS17 g q⟩, ⟨⟨rfl, iS18 g q⟩, ⟨⟨rfl, iS19 g q⟩, ⟨⟨rfl, iS20 g q⟩, ⟨⟨rfl, iS21 g q⟩, ⟨⟨rfl, iS22 g q⟩, ⟨⟨rfl, iS23 g q⟩, ⟨⟨rfl, iS24 g q⟩, ⟨⟨rfl, iS25 g q⟩, ⟨⟨rfl, iS26 g q⟩, ⟨⟨rfl, iS27 g q⟩, ⟨⟨rfl, iS28 g q⟩, ⟨⟨rfl, iS29 g q⟩, ⟨⟨rfl, iS30 g q⟩, ⟨⟨rfl, iS31 g q⟩, ⟨⟨rfl, iS32 g q⟩, ⟨⟨rfl, iS33 g q⟩, ⟨⟨rfl, iS34 g q⟩, ⟨⟨rfl, iS35 g q⟩, ⟨⟨rfl, iS36 g q⟩, ⟨⟨rfl, iS37 g q⟩, ⟨⟨rfl, iS38 g q⟩, ⟨⟨rfl, iS39 g q⟩, ⟨⟨rfl, iS40 g q⟩, ⟨⟨rfl, iS41 g q⟩, ⟨⟨rfl, iS42 g q⟩, ⟨⟨rfl, iS43 g q⟩, ⟨⟨rfl, iS44 g q⟩, ⟨⟨rfl, iS45 g q⟩, ⟨⟨rfl, iS46 g q⟩, ⟨⟨rfl, iS47 g q⟩, ⟨⟨rfl, iS48 g q⟩, ⟨⟨rfl, iS49 g q⟩, ⟨⟨rfl, iS50 g q⟩, ⟨⟨rfl, iS51 g q⟩, ⟨⟨rfl, iS52 g q⟩, ⟨⟨rfl, iS53 g q⟩, ⟨⟨rfl, iS54 g q⟩, ⟨⟨rfl, iS55 g q⟩, ⟨⟨rfl, iS56 g q⟩, ⟨⟨rfl, iS57 g q⟩, ⟨⟨rfl, iS58 g q⟩, ⟨⟨rfl, iS59 g q⟩, ⟨⟨rfl, iS60 g q⟩, ⟨⟨rfl, iS61 g q⟩, ⟨⟨rfl, iS62 g q⟩, ⟨⟨rfl, iS63 g q⟩, ⟨⟨rfl, iS64 g q⟩, ⟨⟨rfl, iS65 g q⟩, ⟨⟨rfl, iS66 g q⟩, ⟨⟨rfl, iS67 g q⟩, ⟨⟨rfl, iS68 g q⟩, ⟨⟨rfl, iS69 g q⟩, ⟨⟨rfl, iS70 g q⟩, ⟨⟨rfl, iS71 g q⟩, ⟨⟨rfl, iS72 g q⟩, ⟨⟨rfl, iS73 g q⟩, ⟨⟨rfl, iS74 g q⟩, ⟨⟨rfl, iS75 g q⟩, ⟨⟨rfl, iS76 g q⟩, ⟨⟨rfl, iS77 g q⟩, ⟨⟨rfl, iS78 g q⟩, ⟨⟨rfl, iS79 g q⟩, ⟨⟨rfl, iS80 g q⟩, ⟨⟨rfl, iS81 g q⟩, ⟨⟨rfl, iS82 g q⟩, ⟨⟨rfl, iS83 g q⟩, ⟨⟨rfl, iS84 g q⟩, ⟨⟨rfl, iS85 g q⟩, ⟨⟨rfl, iS86 g q⟩, ⟨⟨rfl, iS87 g q⟩, ⟨⟨rfl, iS88 g q⟩, ⟨⟨rfl, iS89 g q⟩, ⟨⟨rfl, iS90 g q⟩, ⟨⟨rfl, iS91 g q⟩, ⟨⟨rfl, iS92 g q⟩, ⟨⟨rfl, iS93 g q⟩, ⟨⟨rfl, iS94 g q⟩, ⟨⟨rfl, iS95 g q⟩, ⟨⟨rfl, iS96 g q⟩, ⟨⟨rfl, iS97 g q⟩, ⟨⟨rfl, iS98 g q⟩, ⟨⟨rfl, iS99 g q⟩, ⟨⟨rfl, iS100 g q⟩, ⟨⟨rfl, iS101 g q⟩, ⟨⟨rfl, iS102 g q⟩, ⟨⟨rfl, iS103 g q⟩, ⟨⟨rfl, iS104 g q⟩, ⟨⟨rfl, iS105 g q⟩, ⟨⟨rfl, iS106 g q⟩, ⟨⟨rfl, iS107 g q⟩, ⟨⟨rfl, iS108 g q⟩, ⟨⟨rfl, iS109 g q⟩, ⟨⟨rfl, iS110 g q⟩, ⟨⟨rfl, iS111 g q⟩, ⟨⟨rfl, iS112 g q⟩, ⟨⟨rfl, iS113 g q⟩, ⟨⟨rfl, iS114 g q⟩, ⟨⟨rfl, iS115 g q⟩, trivial⟩⟩⟩⟩⟩⟩⟩⟩⟩⟩⟩⟩⟩⟩⟩⟩⟩⟩⟩⟩⟩⟩⟩⟩⟩⟩⟩⟩⟩⟩⟩⟩⟩⟩⟩⟩⟩⟩⟩⟩⟩⟩⟩⟩⟩⟩⟩⟩⟩⟩⟩⟩⟩⟩⟩⟩⟩⟩⟩⟩⟩⟩⟩⟩⟩⟩⟩⟩⟩⟩⟩⟩⟩⟩⟩⟩⟩⟩⟩⟩⟩⟩⟩⟩⟩⟩⟩⟩⟩⟩⟩⟩⟩⟩⟩⟩⟩⟩⟩⟩⟩⟩⟩⟩⟩⟩⟩⟩⟩⟩⟩⟩⟩⟩⟩⟩
theorem iI0 {g : Nat → ClassId} {q : Nat → Nat} {u : va_W} (h : q_fl u 0 (nh_w g q)) : q_I (nsh g q) q u := fun k P hk => by
  have z := iL_I (nsh g q) (nh_w g q) 0 (iS g q) h k P hk
  rw [Nat.zero_add] at z
  exact z
