/-! frames: a place is none of those written, without simp and omega -/
theorem q_fa {k : Nat} {l : List Nat} (h : 66 ≤ k) (hb : l.all (fun x => Nat.blt x 66) = true) : k ∉ l := fun hm => by
  have h1 : Nat.ble (k + 1) 66 = true := List.all_eq_true.mp hb k hm
  have h2 := Nat.le_of_ble_eq_true h1
  omega
theorem q_fa1 {k : Nat} {l : List Nat} (h : 66 ≤ k) (hb : l.all (fun x => Nat.blt x 66) = true) : k + 1 ∉ l := q_fa (by omega) hb
theorem q_fa2 {k : Nat} {l : List Nat} (h : 66 ≤ k) (hb : l.all (fun x => Nat.blt x 66) = true) : k + 2 ∉ l := q_fa (by omega) hb
theorem q_nk {c k : Nat} (h : 66 ≤ k) (hc : Nat.blt c 66 = true) : c ≠ k := fun e => by
  have h1 : Nat.ble (c + 1) 66 = true := hc
  have h2 := Nat.le_of_ble_eq_true h1
  omega
theorem q_nk1 {c k : Nat} (h : 66 ≤ k) (hc : Nat.blt c 66 = true) : c ≠ k + 1 := q_nk (by omega) hc
theorem q_nk2 {c k : Nat} (h : 66 ≤ k) (hc : Nat.blt c 66 = true) : c ≠ k + 2 := q_nk (by omega) hc
theorem q_ns1 {k c : Nat} (h : k ≠ c) : c + 1 ≠ k + 1 := by omega
theorem q_nt1 {k c : Nat} (h : k ≠ c) : k + 1 ≠ c + 1 := by omega
theorem q_nz {c k : Nat} (h : (10 ≤ k ∧ k ≤ 32) ∨ 66 ≤ k) (hc : Nat.blt c 10 = true) : c ≠ k := fun e => by
  have h1 : Nat.ble (c + 1) 10 = true := hc
  have h2 := Nat.le_of_ble_eq_true h1
  omega
theorem q_nz1 {c k : Nat} (h : (10 ≤ k ∧ k ≤ 32) ∨ 66 ≤ k) (hc : Nat.blt c 10 = true) : c ≠ k + 1 := fun e => by
  have h1 : Nat.ble (c + 1) 10 = true := hc
  have h2 := Nat.le_of_ble_eq_true h1
  omega
theorem q_nw {c k : Nat} (h : (10 ≤ k ∧ k ≤ 32) ∨ 66 ≤ k) (hc : Nat.blt c 66 = true) (hd : Nat.blt 33 c = true) : c ≠ k := fun e => by
  have h1 : Nat.ble (c + 1) 66 = true := hc
  have h2 := Nat.le_of_ble_eq_true h1
  have h3 : Nat.ble (33 + 1) c = true := hd
  have h4 := Nat.le_of_ble_eq_true h3
  omega
theorem q_nw1 {c k : Nat} (h : (10 ≤ k ∧ k ≤ 32) ∨ 66 ≤ k) (hc : Nat.blt c 66 = true) (hd : Nat.blt 33 c = true) : c ≠ k + 1 := fun e => by
  have h1 : Nat.ble (c + 1) 66 = true := hc
  have h2 := Nat.le_of_ble_eq_true h1
  have h3 : Nat.ble (33 + 1) c = true := hd
  have h4 := Nat.le_of_ble_eq_true h3
  omega
theorem q_yk {c k : Nat} (h : 66 ≤ k) (hc : Nat.blt c 66 = true) : k ≠ c := Ne.symm (q_nk h hc)
theorem q_yk1 {c k : Nat} (h : 66 ≤ k) (hc : Nat.blt c 66 = true) : k + 1 ≠ c := Ne.symm (q_nk1 h hc)
theorem q_yk2 {c k : Nat} (h : 66 ≤ k) (hc : Nat.blt c 66 = true) : k + 2 ≠ c := Ne.symm (q_nk2 h hc)
theorem q_mi {l : List Nat} {a : Nat} (i : Nat) (h : l[i]? = some a) : a ∈ l := List.mem_of_getElem? h
theorem q_s0 {P : Nat → Prop} : ∀ k, k ∈ ([] : List Nat) → P k := fun _ h => absurd h List.not_mem_nil
theorem q_sk {P : Nat → Prop} {a : Nat} {l : List Nat} (h : P a) (hl : ∀ k, k ∈ l → P k) : ∀ k, k ∈ a :: l → P k := fun k hk => by
  rcases List.mem_cons.mp hk with e | e
  · rw [e]; exact h
  · exact hl k e
theorem q_fe {P : Prop} (h : q_F P) : P := h

/-! the world: what may stand at each of its places -/
def k_Dec (q : Nat → Nat) (k : Nat) : q_Ok := fun E => ∃ y1 y2 : Int32, E = .inr (3, [.ref (q (k + 1)), .int y1, .int y2]) ∧ (-10000 ≤ y1.toInt ∧ y1.toInt ≤ 10000) ∧ (1 ≤ y2.toInt ∧ y2.toInt ≤ 1000)
def k_Sht (q : Nat → Nat) (k : Nat) (R K : Int32) : q_Ok := fun E => ∃ y1 : Int32, E = .inr (1, [.ref (q (k + 1)), .int R, .int y1]) ∧ (0 ≤ y1.toInt ∧ y1.toInt ≤ K.toInt)
def k_Flo (q : Nat → Nat) (a b c : Int32) : q_Ok := fun E => ∃ (y1 : Int64) (y2 y3 : Int32), E = .inr (6, [.int a, .int b, .int c, .long y1, .int y2, .ref (q 9), .int y3])
def q_isShe (sh : List q_Ok) (g : Nat → ClassId) (q : Nat → Nat) (k : Nat) (R N K : Int32) : Prop := sh[k]? = some (k_Sht q k R K) ∧ sh[k + 1]? = some (k_al (g 1) N.toNatClampNeg) ∧ (0 ≤ R.toInt ∧ R.toInt ≤ 8 * N.toInt ∧ 0 ≤ N.toInt ∧ N.toInt ≤ 1376 ∧ 64 ≤ R.toInt ∧ 64 ≤ K.toInt ∧ K.toInt ≤ 1000000) ∧ (k = 1 ∨ k = 3 ∨ k = 45 ∨ (48 ≤ k ∧ k ≤ 64))
def q_isDec (sh : List q_Ok) (g : Nat → ClassId) (q : Nat → Nat) (k : Nat) (R : Int32) : Prop := sh[k]? = some (k_Dec q k) ∧ q_isBig sh g q (k + 1) R
def q_isFlo (sh : List q_Ok) (q : Nat → Nat) (k : Nat) (a b c : Int32) : Prop := sh[k]? = some (k_Flo q a b c) ∧ (23 ≤ a.toInt ∧ a.toInt ≤ 52) ∧ (150 ≤ b.toInt ∧ b.toInt ≤ 1075) ∧ (255 ≤ c.toInt ∧ c.toInt ≤ 2047) ∧ (k = 34 ∨ k = 35)
def n_fw (q : Nat → Nat) : Nat → Option Nat := fun j => if j < 10 then some (q (66 + 5 * j)) else none
def n_fd (q : Nat → Nat) : Nat → Option Nat := fun j => if j < 10 then some (q (68 + 5 * j)) else none
def n_ft (q : Nat → Nat) : Nat → Option Nat := fun j => if j < 9 then some (q (48 + 2 * j)) else none
theorem n_fwv {q : Nat → Nat} {j : Nat} (h : j < 10) : n_fw q j = some (q (66 + 5 * j)) := if_pos h
theorem n_fdv {q : Nat → Nat} {j : Nat} (h : j < 10) : n_fd q j = some (q (68 + 5 * j)) := if_pos h
theorem n_ftv {q : Nat → Nat} {j : Nat} (h : j < 9) : n_ft q j = some (q (48 + 2 * j)) := if_pos h
def k_0 (q : Nat → Nat) : q_Ok := fun E => E = .inr (0, [.ref (q 1), .ref (q 3), .ref (q 5), .ref (q 6), .ref (q 7), .ref (q 8), .ref (q 9), .ref (q 30), .ref (q 34), .ref (q 35), .ref (q 36), .ref (q 38), .ref (q 39), .ref (q 40)])
def k_9 (q : Nat → Nat) : q_Ok := fun E => E = .inr (4, [.ref (q 10), .ref (q 12), .ref (q 14), .ref (q 16), .ref (q 18), .ref (q 20), .ref (q 22), .ref (q 24), .ref (q 26), .ref (q 28)])
def k_30 (q : Nat → Nat) : q_Ok := fun E => ∃ (y0 : Int64) (y1 : Int32), E = .inr (5, [.ref (q 31), .long y0, .ref (q 9), .int y1]) ∧ (0 ≤ y1.toInt ∧ y1.toInt ≤ 1)
def k_36 (q : Nat → Nat) : q_Ok := fun E => ∃ (y0 : Int32) (y1 : Int32), E = .inr (7, [.int y0, .int y1, .ref (q 37)]) ∧ (0 ≤ y0.toInt ∧ y0.toInt ≤ 1026) ∧ (-1000000 ≤ y1.toInt ∧ y1.toInt ≤ 1000000)
def k_38 (q : Nat → Nat) : q_Ok := fun E => ∃ (y0 : Int64) (y1 : Int64) (y2 : Int32) (y3 : Int32) (y4 : Int32) (y5 : Int32) (y6 : Int32) (y7 : Int32) (y8 : Int32) (y9 : Int64), E = .inr (8, [.long y0, .long y1, .ref (q 1), .ref (q 9), .int y2, .int y3, .int y4, .int y5, .int y6, .int y7, .int y8, .long y9]) ∧ (0 ≤ y4.toInt ∧ y4.toInt ≤ 1) ∧ (0 ≤ y8.toInt ∧ y8.toInt ≤ 1)
def k_39 (q : Nat → Nat) : q_Ok := fun E => E = .inr (9, [.ref (q 3), .ref (q 9), .ref (q 36)])
def k_40 (q : Nat → Nat) : q_Ok := fun E => ∃ (y0 : Int32) (y1 : Int32) (y2 : Int32) (y3 : Int32), E = .inr (11, [.int y0, .ref (q 41), .ref (q 42), .ref (q 43), .ref (q 44), .ref (q 1), .ref (q 47), .ref (q 36), .ref (q 45), .int y1, .int y2, .int y3]) ∧ (0 ≤ y0.toInt ∧ y0.toInt ≤ 9) ∧ (-1 ≤ y1.toInt ∧ y1.toInt ≤ 1000000) ∧ (-1 ≤ y3.toInt ∧ y3.toInt ≤ 8)
def k_47 (q : Nat → Nat) : q_Ok := fun E => ∃ (y0 : Int32) (y1 : Int32) (y2 : Int32) (y3 : Int32) (y4 : Int32) (y5 : Int32) (y6 : Int32), E = .inr (10, [.int y0, .int y1, .int y2, .int y3, .int y4, .int y5, .ref (q 1), .int y6]) ∧ (-1 ≤ y2.toInt ∧ y2.toInt ≤ 9999) ∧ (-1 ≤ y3.toInt ∧ y3.toInt ≤ 9999) ∧ (0 ≤ y6.toInt ∧ y6.toInt ≤ 1)
def nsh (g : Nat → ClassId) (q : Nat → Nat) : List q_Ok := [k_0 q, k_Sht q 1 4100 4100, k_al (g 1) (513 : Int32).toNatClampNeg, k_Sht q 3 11008 1000000, k_al (g 1) (1376 : Int32).toNatClampNeg, k_fix (.inl (g 4, 10, .inr (.inr (.inr (.inr (n_fw q)))))), k_fix (.inl (g 5, 10, .inr (.inr (.inr (.inr (n_fd q)))))), k_al (g 1) 10, k_al (g 1) 10, k_9 q, k_Big q 10 220, k_ai (g 0) (220 : Int32).toNatClampNeg (-2147483648) 2147483647, k_Big q 12 220, k_ai (g 0) (220 : Int32).toNatClampNeg (-2147483648) 2147483647, k_Big q 14 220, k_ai (g 0) (220 : Int32).toNatClampNeg (-2147483648) 2147483647, k_Big q 16 220, k_ai (g 0) (220 : Int32).toNatClampNeg (-2147483648) 2147483647, k_Big q 18 220, k_ai (g 0) (220 : Int32).toNatClampNeg (-2147483648) 2147483647, k_Big q 20 220, k_ai (g 0) (220 : Int32).toNatClampNeg (-2147483648) 2147483647, k_Big q 22 220, k_ai (g 0) (220 : Int32).toNatClampNeg (-2147483648) 2147483647, k_Big q 24 220, k_ai (g 0) (220 : Int32).toNatClampNeg (-2147483648) 2147483647, k_Big q 26 220, k_ai (g 0) (220 : Int32).toNatClampNeg (-2147483648) 2147483647, k_Big q 28 220, k_ai (g 0) (220 : Int32).toNatClampNeg (-2147483648) 2147483647, k_30 q, k_Dec q 31, k_Big q 32 3, k_ai (g 0) (3 : Int32).toNatClampNeg (-2147483648) 2147483647, k_Flo q 52 1075 2047, k_Flo q 23 150 255, k_36 q, k_ai (g 2) 1026 (-2147483648) 2147483647, k_38 q, k_39 q, k_40 q, k_ai (g 0) 9 (-2147483648) 2147483647, k_al (g 1) 9, k_ai (g 0) 9 (-10000) 10000, k_fix (.inl (g 6, 9, .inr (.inr (.inr (.inr (n_ft q)))))), k_Sht q 45 4104 1000000, k_al (g 1) (513 : Int32).toNatClampNeg, k_47 q, k_Sht q 48 64 64, k_al (g 1) (8 : Int32).toNatClampNeg, k_Sht q 50 64 64, k_al (g 1) (8 : Int32).toNatClampNeg, k_Sht q 52 64 64, k_al (g 1) (8 : Int32).toNatClampNeg, k_Sht q 54 64 64, k_al (g 1) (8 : Int32).toNatClampNeg, k_Sht q 56 64 64, k_al (g 1) (8 : Int32).toNatClampNeg, k_Sht q 58 64 64, k_al (g 1) (8 : Int32).toNatClampNeg, k_Sht q 60 64 64, k_al (g 1) (8 : Int32).toNatClampNeg, k_Sht q 62 64 64, k_al (g 1) (8 : Int32).toNatClampNeg, k_Sht q 64 64 64, k_al (g 1) (8 : Int32).toNatClampNeg, k_Big q 66 68, k_ai (g 0) (68 : Int32).toNatClampNeg (-2147483648) 2147483647, k_Dec q 68, k_Big q 69 108, k_ai (g 0) (108 : Int32).toNatClampNeg (-2147483648) 2147483647, k_Big q 71 68, k_ai (g 0) (68 : Int32).toNatClampNeg (-2147483648) 2147483647, k_Dec q 73, k_Big q 74 108, k_ai (g 0) (108 : Int32).toNatClampNeg (-2147483648) 2147483647, k_Big q 76 68, k_ai (g 0) (68 : Int32).toNatClampNeg (-2147483648) 2147483647, k_Dec q 78, k_Big q 79 108, k_ai (g 0) (108 : Int32).toNatClampNeg (-2147483648) 2147483647, k_Big q 81 68, k_ai (g 0) (68 : Int32).toNatClampNeg (-2147483648) 2147483647, k_Dec q 83, k_Big q 84 108, k_ai (g 0) (108 : Int32).toNatClampNeg (-2147483648) 2147483647, k_Big q 86 68, k_ai (g 0) (68 : Int32).toNatClampNeg (-2147483648) 2147483647, k_Dec q 88, k_Big q 89 108, k_ai (g 0) (108 : Int32).toNatClampNeg (-2147483648) 2147483647, k_Big q 91 68, k_ai (g 0) (68 : Int32).toNatClampNeg (-2147483648) 2147483647, k_Dec q 93, k_Big q 94 108, k_ai (g 0) (108 : Int32).toNatClampNeg (-2147483648) 2147483647, k_Big q 96 68, k_ai (g 0) (68 : Int32).toNatClampNeg (-2147483648) 2147483647, k_Dec q 98, k_Big q 99 108, k_ai (g 0) (108 : Int32).toNatClampNeg (-2147483648) 2147483647, k_Big q 101 68, k_ai (g 0) (68 : Int32).toNatClampNeg (-2147483648) 2147483647, k_Dec q 103, k_Big q 104 108, k_ai (g 0) (108 : Int32).toNatClampNeg (-2147483648) 2147483647, k_Big q 106 68, k_ai (g 0) (68 : Int32).toNatClampNeg (-2147483648) 2147483647, k_Dec q 108, k_Big q 109 108, k_ai (g 0) (108 : Int32).toNatClampNeg (-2147483648) 2147483647, k_Big q 111 68, k_ai (g 0) (68 : Int32).toNatClampNeg (-2147483648) 2147483647, k_Dec q 113, k_Big q 114 108, k_ai (g 0) (108 : Int32).toNatClampNeg (-2147483648) 2147483647]
theorem n_s0 (g : Nat → ClassId) (q : Nat → Nat) : (nsh g q)[0]? = some (k_0 q) := rfl
theorem n_s1 (g : Nat → ClassId) (q : Nat → Nat) : (nsh g q)[1]? = some (k_Sht q 1 4100 4100) := rfl
theorem n_s2 (g : Nat → ClassId) (q : Nat → Nat) : (nsh g q)[2]? = some (k_al (g 1) (513 : Int32).toNatClampNeg) := rfl
theorem n_s3 (g : Nat → ClassId) (q : Nat → Nat) : (nsh g q)[3]? = some (k_Sht q 3 11008 1000000) := rfl
theorem n_s4 (g : Nat → ClassId) (q : Nat → Nat) : (nsh g q)[4]? = some (k_al (g 1) (1376 : Int32).toNatClampNeg) := rfl
theorem n_s5 (g : Nat → ClassId) (q : Nat → Nat) : (nsh g q)[5]? = some (k_fix (.inl (g 4, 10, .inr (.inr (.inr (.inr (n_fw q))))))) := rfl
theorem n_s6 (g : Nat → ClassId) (q : Nat → Nat) : (nsh g q)[6]? = some (k_fix (.inl (g 5, 10, .inr (.inr (.inr (.inr (n_fd q))))))) := rfl
theorem n_s7 (g : Nat → ClassId) (q : Nat → Nat) : (nsh g q)[7]? = some (k_al (g 1) 10) := rfl
theorem n_s8 (g : Nat → ClassId) (q : Nat → Nat) : (nsh g q)[8]? = some (k_al (g 1) 10) := rfl
theorem n_s9 (g : Nat → ClassId) (q : Nat → Nat) : (nsh g q)[9]? = some (k_9 q) := rfl
theorem n_s10 (g : Nat → ClassId) (q : Nat → Nat) : (nsh g q)[10]? = some (k_Big q 10 220) := rfl
theorem n_s11 (g : Nat → ClassId) (q : Nat → Nat) : (nsh g q)[11]? = some (k_ai (g 0) (220 : Int32).toNatClampNeg (-2147483648) 2147483647) := rfl
theorem n_s12 (g : Nat → ClassId) (q : Nat → Nat) : (nsh g q)[12]? = some (k_Big q 12 220) := rfl
theorem n_s13 (g : Nat → ClassId) (q : Nat → Nat) : (nsh g q)[13]? = some (k_ai (g 0) (220 : Int32).toNatClampNeg (-2147483648) 2147483647) := rfl
theorem n_s14 (g : Nat → ClassId) (q : Nat → Nat) : (nsh g q)[14]? = some (k_Big q 14 220) := rfl
theorem n_s15 (g : Nat → ClassId) (q : Nat → Nat) : (nsh g q)[15]? = some (k_ai (g 0) (220 : Int32).toNatClampNeg (-2147483648) 2147483647) := rfl
theorem n_s16 (g : Nat → ClassId) (q : Nat → Nat) : (nsh g q)[16]? = some (k_Big q 16 220) := rfl
theorem n_s17 (g : Nat → ClassId) (q : Nat → Nat) : (nsh g q)[17]? = some (k_ai (g 0) (220 : Int32).toNatClampNeg (-2147483648) 2147483647) := rfl
theorem n_s18 (g : Nat → ClassId) (q : Nat → Nat) : (nsh g q)[18]? = some (k_Big q 18 220) := rfl
theorem n_s19 (g : Nat → ClassId) (q : Nat → Nat) : (nsh g q)[19]? = some (k_ai (g 0) (220 : Int32).toNatClampNeg (-2147483648) 2147483647) := rfl
theorem n_s20 (g : Nat → ClassId) (q : Nat → Nat) : (nsh g q)[20]? = some (k_Big q 20 220) := rfl
theorem n_s21 (g : Nat → ClassId) (q : Nat → Nat) : (nsh g q)[21]? = some (k_ai (g 0) (220 : Int32).toNatClampNeg (-2147483648) 2147483647) := rfl
theorem n_s22 (g : Nat → ClassId) (q : Nat → Nat) : (nsh g q)[22]? = some (k_Big q 22 220) := rfl
theorem n_s23 (g : Nat → ClassId) (q : Nat → Nat) : (nsh g q)[23]? = some (k_ai (g 0) (220 : Int32).toNatClampNeg (-2147483648) 2147483647) := rfl
theorem n_s24 (g : Nat → ClassId) (q : Nat → Nat) : (nsh g q)[24]? = some (k_Big q 24 220) := rfl
theorem n_s25 (g : Nat → ClassId) (q : Nat → Nat) : (nsh g q)[25]? = some (k_ai (g 0) (220 : Int32).toNatClampNeg (-2147483648) 2147483647) := rfl
theorem n_s26 (g : Nat → ClassId) (q : Nat → Nat) : (nsh g q)[26]? = some (k_Big q 26 220) := rfl
theorem n_s27 (g : Nat → ClassId) (q : Nat → Nat) : (nsh g q)[27]? = some (k_ai (g 0) (220 : Int32).toNatClampNeg (-2147483648) 2147483647) := rfl
theorem n_s28 (g : Nat → ClassId) (q : Nat → Nat) : (nsh g q)[28]? = some (k_Big q 28 220) := rfl
theorem n_s29 (g : Nat → ClassId) (q : Nat → Nat) : (nsh g q)[29]? = some (k_ai (g 0) (220 : Int32).toNatClampNeg (-2147483648) 2147483647) := rfl
theorem n_s30 (g : Nat → ClassId) (q : Nat → Nat) : (nsh g q)[30]? = some (k_30 q) := rfl
theorem n_s31 (g : Nat → ClassId) (q : Nat → Nat) : (nsh g q)[31]? = some (k_Dec q 31) := rfl
theorem n_s32 (g : Nat → ClassId) (q : Nat → Nat) : (nsh g q)[32]? = some (k_Big q 32 3) := rfl
theorem n_s33 (g : Nat → ClassId) (q : Nat → Nat) : (nsh g q)[33]? = some (k_ai (g 0) (3 : Int32).toNatClampNeg (-2147483648) 2147483647) := rfl
theorem n_s34 (g : Nat → ClassId) (q : Nat → Nat) : (nsh g q)[34]? = some (k_Flo q 52 1075 2047) := rfl
theorem n_s35 (g : Nat → ClassId) (q : Nat → Nat) : (nsh g q)[35]? = some (k_Flo q 23 150 255) := rfl
theorem n_s36 (g : Nat → ClassId) (q : Nat → Nat) : (nsh g q)[36]? = some (k_36 q) := rfl
theorem n_s37 (g : Nat → ClassId) (q : Nat → Nat) : (nsh g q)[37]? = some (k_ai (g 2) 1026 (-2147483648) 2147483647) := rfl
theorem n_s38 (g : Nat → ClassId) (q : Nat → Nat) : (nsh g q)[38]? = some (k_38 q) := rfl
theorem n_s39 (g : Nat → ClassId) (q : Nat → Nat) : (nsh g q)[39]? = some (k_39 q) := rfl
theorem n_s40 (g : Nat → ClassId) (q : Nat → Nat) : (nsh g q)[40]? = some (k_40 q) := rfl
theorem n_s41 (g : Nat → ClassId) (q : Nat → Nat) : (nsh g q)[41]? = some (k_ai (g 0) 9 (-2147483648) 2147483647) := rfl
theorem n_s42 (g : Nat → ClassId) (q : Nat → Nat) : (nsh g q)[42]? = some (k_al (g 1) 9) := rfl
theorem n_s43 (g : Nat → ClassId) (q : Nat → Nat) : (nsh g q)[43]? = some (k_ai (g 0) 9 (-10000) 10000) := rfl
theorem n_s44 (g : Nat → ClassId) (q : Nat → Nat) : (nsh g q)[44]? = some (k_fix (.inl (g 6, 9, .inr (.inr (.inr (.inr (n_ft q))))))) := rfl
theorem n_s45 (g : Nat → ClassId) (q : Nat → Nat) : (nsh g q)[45]? = some (k_Sht q 45 4104 1000000) := rfl
theorem n_s46 (g : Nat → ClassId) (q : Nat → Nat) : (nsh g q)[46]? = some (k_al (g 1) (513 : Int32).toNatClampNeg) := rfl
theorem n_s47 (g : Nat → ClassId) (q : Nat → Nat) : (nsh g q)[47]? = some (k_47 q) := rfl
theorem n_s48 (g : Nat → ClassId) (q : Nat → Nat) : (nsh g q)[48]? = some (k_Sht q 48 64 64) := rfl
theorem n_s49 (g : Nat → ClassId) (q : Nat → Nat) : (nsh g q)[49]? = some (k_al (g 1) (8 : Int32).toNatClampNeg) := rfl
theorem n_s50 (g : Nat → ClassId) (q : Nat → Nat) : (nsh g q)[50]? = some (k_Sht q 50 64 64) := rfl
theorem n_s51 (g : Nat → ClassId) (q : Nat → Nat) : (nsh g q)[51]? = some (k_al (g 1) (8 : Int32).toNatClampNeg) := rfl
theorem n_s52 (g : Nat → ClassId) (q : Nat → Nat) : (nsh g q)[52]? = some (k_Sht q 52 64 64) := rfl
theorem n_s53 (g : Nat → ClassId) (q : Nat → Nat) : (nsh g q)[53]? = some (k_al (g 1) (8 : Int32).toNatClampNeg) := rfl
theorem n_s54 (g : Nat → ClassId) (q : Nat → Nat) : (nsh g q)[54]? = some (k_Sht q 54 64 64) := rfl
theorem n_s55 (g : Nat → ClassId) (q : Nat → Nat) : (nsh g q)[55]? = some (k_al (g 1) (8 : Int32).toNatClampNeg) := rfl
theorem n_s56 (g : Nat → ClassId) (q : Nat → Nat) : (nsh g q)[56]? = some (k_Sht q 56 64 64) := rfl
theorem n_s57 (g : Nat → ClassId) (q : Nat → Nat) : (nsh g q)[57]? = some (k_al (g 1) (8 : Int32).toNatClampNeg) := rfl
theorem n_s58 (g : Nat → ClassId) (q : Nat → Nat) : (nsh g q)[58]? = some (k_Sht q 58 64 64) := rfl
theorem n_s59 (g : Nat → ClassId) (q : Nat → Nat) : (nsh g q)[59]? = some (k_al (g 1) (8 : Int32).toNatClampNeg) := rfl
theorem n_s60 (g : Nat → ClassId) (q : Nat → Nat) : (nsh g q)[60]? = some (k_Sht q 60 64 64) := rfl
theorem n_s61 (g : Nat → ClassId) (q : Nat → Nat) : (nsh g q)[61]? = some (k_al (g 1) (8 : Int32).toNatClampNeg) := rfl
theorem n_s62 (g : Nat → ClassId) (q : Nat → Nat) : (nsh g q)[62]? = some (k_Sht q 62 64 64) := rfl
theorem n_s63 (g : Nat → ClassId) (q : Nat → Nat) : (nsh g q)[63]? = some (k_al (g 1) (8 : Int32).toNatClampNeg) := rfl
theorem n_s64 (g : Nat → ClassId) (q : Nat → Nat) : (nsh g q)[64]? = some (k_Sht q 64 64 64) := rfl
theorem n_s65 (g : Nat → ClassId) (q : Nat → Nat) : (nsh g q)[65]? = some (k_al (g 1) (8 : Int32).toNatClampNeg) := rfl
theorem n_s66 (g : Nat → ClassId) (q : Nat → Nat) : (nsh g q)[66]? = some (k_Big q 66 68) := rfl
theorem n_s67 (g : Nat → ClassId) (q : Nat → Nat) : (nsh g q)[67]? = some (k_ai (g 0) (68 : Int32).toNatClampNeg (-2147483648) 2147483647) := rfl
theorem n_s68 (g : Nat → ClassId) (q : Nat → Nat) : (nsh g q)[68]? = some (k_Dec q 68) := rfl
theorem n_s69 (g : Nat → ClassId) (q : Nat → Nat) : (nsh g q)[69]? = some (k_Big q 69 108) := rfl
theorem n_s70 (g : Nat → ClassId) (q : Nat → Nat) : (nsh g q)[70]? = some (k_ai (g 0) (108 : Int32).toNatClampNeg (-2147483648) 2147483647) := rfl
theorem n_s71 (g : Nat → ClassId) (q : Nat → Nat) : (nsh g q)[71]? = some (k_Big q 71 68) := rfl
theorem n_s72 (g : Nat → ClassId) (q : Nat → Nat) : (nsh g q)[72]? = some (k_ai (g 0) (68 : Int32).toNatClampNeg (-2147483648) 2147483647) := rfl
theorem n_s73 (g : Nat → ClassId) (q : Nat → Nat) : (nsh g q)[73]? = some (k_Dec q 73) := rfl
theorem n_s74 (g : Nat → ClassId) (q : Nat → Nat) : (nsh g q)[74]? = some (k_Big q 74 108) := rfl
theorem n_s75 (g : Nat → ClassId) (q : Nat → Nat) : (nsh g q)[75]? = some (k_ai (g 0) (108 : Int32).toNatClampNeg (-2147483648) 2147483647) := rfl
theorem n_s76 (g : Nat → ClassId) (q : Nat → Nat) : (nsh g q)[76]? = some (k_Big q 76 68) := rfl
theorem n_s77 (g : Nat → ClassId) (q : Nat → Nat) : (nsh g q)[77]? = some (k_ai (g 0) (68 : Int32).toNatClampNeg (-2147483648) 2147483647) := rfl
theorem n_s78 (g : Nat → ClassId) (q : Nat → Nat) : (nsh g q)[78]? = some (k_Dec q 78) := rfl
theorem n_s79 (g : Nat → ClassId) (q : Nat → Nat) : (nsh g q)[79]? = some (k_Big q 79 108) := rfl
theorem n_s80 (g : Nat → ClassId) (q : Nat → Nat) : (nsh g q)[80]? = some (k_ai (g 0) (108 : Int32).toNatClampNeg (-2147483648) 2147483647) := rfl
theorem n_s81 (g : Nat → ClassId) (q : Nat → Nat) : (nsh g q)[81]? = some (k_Big q 81 68) := rfl
theorem n_s82 (g : Nat → ClassId) (q : Nat → Nat) : (nsh g q)[82]? = some (k_ai (g 0) (68 : Int32).toNatClampNeg (-2147483648) 2147483647) := rfl
theorem n_s83 (g : Nat → ClassId) (q : Nat → Nat) : (nsh g q)[83]? = some (k_Dec q 83) := rfl
theorem n_s84 (g : Nat → ClassId) (q : Nat → Nat) : (nsh g q)[84]? = some (k_Big q 84 108) := rfl
theorem n_s85 (g : Nat → ClassId) (q : Nat → Nat) : (nsh g q)[85]? = some (k_ai (g 0) (108 : Int32).toNatClampNeg (-2147483648) 2147483647) := rfl
theorem n_s86 (g : Nat → ClassId) (q : Nat → Nat) : (nsh g q)[86]? = some (k_Big q 86 68) := rfl
theorem n_s87 (g : Nat → ClassId) (q : Nat → Nat) : (nsh g q)[87]? = some (k_ai (g 0) (68 : Int32).toNatClampNeg (-2147483648) 2147483647) := rfl
theorem n_s88 (g : Nat → ClassId) (q : Nat → Nat) : (nsh g q)[88]? = some (k_Dec q 88) := rfl
theorem n_s89 (g : Nat → ClassId) (q : Nat → Nat) : (nsh g q)[89]? = some (k_Big q 89 108) := rfl
theorem n_s90 (g : Nat → ClassId) (q : Nat → Nat) : (nsh g q)[90]? = some (k_ai (g 0) (108 : Int32).toNatClampNeg (-2147483648) 2147483647) := rfl
theorem n_s91 (g : Nat → ClassId) (q : Nat → Nat) : (nsh g q)[91]? = some (k_Big q 91 68) := rfl
theorem n_s92 (g : Nat → ClassId) (q : Nat → Nat) : (nsh g q)[92]? = some (k_ai (g 0) (68 : Int32).toNatClampNeg (-2147483648) 2147483647) := rfl
theorem n_s93 (g : Nat → ClassId) (q : Nat → Nat) : (nsh g q)[93]? = some (k_Dec q 93) := rfl
theorem n_s94 (g : Nat → ClassId) (q : Nat → Nat) : (nsh g q)[94]? = some (k_Big q 94 108) := rfl
theorem n_s95 (g : Nat → ClassId) (q : Nat → Nat) : (nsh g q)[95]? = some (k_ai (g 0) (108 : Int32).toNatClampNeg (-2147483648) 2147483647) := rfl
theorem n_s96 (g : Nat → ClassId) (q : Nat → Nat) : (nsh g q)[96]? = some (k_Big q 96 68) := rfl
theorem n_s97 (g : Nat → ClassId) (q : Nat → Nat) : (nsh g q)[97]? = some (k_ai (g 0) (68 : Int32).toNatClampNeg (-2147483648) 2147483647) := rfl
theorem n_s98 (g : Nat → ClassId) (q : Nat → Nat) : (nsh g q)[98]? = some (k_Dec q 98) := rfl
theorem n_s99 (g : Nat → ClassId) (q : Nat → Nat) : (nsh g q)[99]? = some (k_Big q 99 108) := rfl
theorem n_s100 (g : Nat → ClassId) (q : Nat → Nat) : (nsh g q)[100]? = some (k_ai (g 0) (108 : Int32).toNatClampNeg (-2147483648) 2147483647) := rfl
theorem n_s101 (g : Nat → ClassId) (q : Nat → Nat) : (nsh g q)[101]? = some (k_Big q 101 68) := rfl
theorem n_s102 (g : Nat → ClassId) (q : Nat → Nat) : (nsh g q)[102]? = some (k_ai (g 0) (68 : Int32).toNatClampNeg (-2147483648) 2147483647) := rfl
theorem n_s103 (g : Nat → ClassId) (q : Nat → Nat) : (nsh g q)[103]? = some (k_Dec q 103) := rfl
theorem n_s104 (g : Nat → ClassId) (q : Nat → Nat) : (nsh g q)[104]? = some (k_Big q 104 108) := rfl
theorem n_s105 (g : Nat → ClassId) (q : Nat → Nat) : (nsh g q)[105]? = some (k_ai (g 0) (108 : Int32).toNatClampNeg (-2147483648) 2147483647) := rfl
theorem n_s106 (g : Nat → ClassId) (q : Nat → Nat) : (nsh g q)[106]? = some (k_Big q 106 68) := rfl
theorem n_s107 (g : Nat → ClassId) (q : Nat → Nat) : (nsh g q)[107]? = some (k_ai (g 0) (68 : Int32).toNatClampNeg (-2147483648) 2147483647) := rfl
theorem n_s108 (g : Nat → ClassId) (q : Nat → Nat) : (nsh g q)[108]? = some (k_Dec q 108) := rfl
theorem n_s109 (g : Nat → ClassId) (q : Nat → Nat) : (nsh g q)[109]? = some (k_Big q 109 108) := rfl
theorem n_s110 (g : Nat → ClassId) (q : Nat → Nat) : (nsh g q)[110]? = some (k_ai (g 0) (108 : Int32).toNatClampNeg (-2147483648) 2147483647) := rfl
theorem n_s111 (g : Nat → ClassId) (q : Nat → Nat) : (nsh g q)[111]? = some (k_Big q 111 68) := rfl
theorem n_s112 (g : Nat → ClassId) (q : Nat → Nat) : (nsh g q)[112]? = some (k_ai (g 0) (68 : Int32).toNatClampNeg (-2147483648) 2147483647) := rfl
theorem n_s113 (g : Nat → ClassId) (q : Nat → Nat) : (nsh g q)[113]? = some (k_Dec q 113) := rfl
theorem n_s114 (g : Nat → ClassId) (q : Nat → Nat) : (nsh g q)[114]? = some (k_Big q 114 108) := rfl
theorem n_s115 (g : Nat → ClassId) (q : Nat → Nat) : (nsh g q)[115]? = some (k_ai (g 0) (108 : Int32).toNatClampNeg (-2147483648) 2147483647) := rfl
theorem n_ai {sh : List q_Ok} {q : Nat → Nat} {ws : va_W} {k n : Nat} {c : ClassId} {lo hi : Int} (h : q_I sh q ws) (hk : sh[k]? = some (k_ai c n lo hi)) : ∃ f : Nat → Int32, ws[k]? = (some (q k, .inl (c, n, .inl f)) : Option (Nat × va_E)) ∧ ∀ i, lo ≤ (f i).toInt ∧ (f i).toInt ≤ hi := by
  obtain ⟨E, h1, f, rfl, h2⟩ := h k _ hk
  exact ⟨f, h1, h2⟩
theorem n_ai' {sh : List q_Ok} {q : Nat → Nat} {ws u : va_W} {k n : Nat} {c : ClassId} {lo hi : Int} {f : Nat → Int32} (h : q_I sh q ws) (hk : sh[k]? = some (k_ai c n lo hi)) (hu : ∀ i, i ≠ k → u[i]? = ws[i]?) (hx : u[k]? = (some (q k, .inl (c, n, .inl f)) : Option (Nat × va_E))) (hf : ∀ i, lo ≤ (f i).toInt ∧ (f i).toInt ≤ hi) : q_I sh q u := q_Iset h hu hk hx ⟨f, rfl, hf⟩
theorem n_al {sh : List q_Ok} {q : Nat → Nat} {ws : va_W} {k n : Nat} {c : ClassId} (h : q_I sh q ws) (hk : sh[k]? = some (k_al c n)) : ∃ f : Nat → Int64, ws[k]? = (some (q k, .inl (c, n, .inr (.inl f))) : Option (Nat × va_E)) := by
  obtain ⟨E, h1, f, rfl⟩ := h k _ hk
  exact ⟨f, h1⟩
theorem n_al' {sh : List q_Ok} {q : Nat → Nat} {ws u : va_W} {k n : Nat} {c : ClassId} {f : Nat → Int64} (h : q_I sh q ws) (hk : sh[k]? = some (k_al c n)) (hu : ∀ i, i ≠ k → u[i]? = ws[i]?) (hx : u[k]? = (some (q k, .inl (c, n, .inr (.inl f))) : Option (Nat × va_E))) : q_I sh q u := q_Iset h hu hk hx ⟨f, rfl⟩
theorem n_fx {sh : List q_Ok} {q : Nat → Nat} {ws : va_W} {k : Nat} {E : va_E} (h : q_I sh q ws) (hk : sh[k]? = some (k_fix E)) : ws[k]? = (some (q k, E) : Option (Nat × va_E)) := by
  obtain ⟨E1, h1, h2⟩ := h k _ hk
  cases h2
  exact h1
theorem n_o0 {g : Nat → ClassId} {q : Nat → Nat} {ws : va_W} (h : q_I (nsh g q) q ws) : ws[0]? = (some (q 0, .inr (0, [.ref (q 1), .ref (q 3), .ref (q 5), .ref (q 6), .ref (q 7), .ref (q 8), .ref (q 9), .ref (q 30), .ref (q 34), .ref (q 35), .ref (q 36), .ref (q 38), .ref (q 39), .ref (q 40)])) : Option (Nat × va_E)) := by
  obtain ⟨E, h1, rfl⟩ := h 0 _ (n_s0 g q)
  exact h1
theorem n_o9 {g : Nat → ClassId} {q : Nat → Nat} {ws : va_W} (h : q_I (nsh g q) q ws) : ws[9]? = (some (q 9, .inr (4, [.ref (q 10), .ref (q 12), .ref (q 14), .ref (q 16), .ref (q 18), .ref (q 20), .ref (q 22), .ref (q 24), .ref (q 26), .ref (q 28)])) : Option (Nat × va_E)) := by
  obtain ⟨E, h1, rfl⟩ := h 9 _ (n_s9 g q)
  exact h1
theorem n_o30 {g : Nat → ClassId} {q : Nat → Nat} {ws : va_W} (h : q_I (nsh g q) q ws) : ∃ (y0 : Int64) (y1 : Int32), ws[30]? = (some (q 30, .inr (5, [.ref (q 31), .long y0, .ref (q 9), .int y1])) : Option (Nat × va_E)) ∧ (0 ≤ y1.toInt ∧ y1.toInt ≤ 1) := by
  obtain ⟨E, h1, y0, y1, rfl, b0⟩ := h 30 _ (n_s30 g q)
  exact ⟨y0, y1, h1, b0⟩
theorem n_w30 {g : Nat → ClassId} {q : Nat → Nat} {ws : va_W} (h : q_I (nsh g q) q ws) {y0 : Int64} {y1 : Int32} (hx9 : ws[30]? = (some (q 30, .inr (5, [.ref (q 31), .long y0, .ref (q 9), .int y1])) : Option (Nat × va_E))) : (0 ≤ y1.toInt ∧ y1.toInt ≤ 1) := by
  obtain ⟨z0, z1, hh9, bb9⟩ := n_o30 h
  obtain ⟨rfl, rfl⟩ : y0 = z0 ∧ y1 = z1 := by have z := Option.some.inj (hx9.symm.trans hh9); simpa using z
  exact bb9
theorem n_p30 {g : Nat → ClassId} {q : Nat → Nat} {ws u : va_W} {y0 : Int64} {y1 : Int32} (h : q_I (nsh g q) q ws) (hu : ∀ i, i ≠ 30 → u[i]? = ws[i]?) (hx : u[30]? = (some (q 30, .inr (5, [.ref (q 31), .long y0, .ref (q 9), .int y1])) : Option (Nat × va_E))) (b0 : 0 ≤ y1.toInt ∧ y1.toInt ≤ 1) : q_I (nsh g q) q u := q_Iset h hu (n_s30 g q) hx ⟨y0, y1, rfl, b0⟩
theorem n_o36 {g : Nat → ClassId} {q : Nat → Nat} {ws : va_W} (h : q_I (nsh g q) q ws) : ∃ (y0 : Int32) (y1 : Int32), ws[36]? = (some (q 36, .inr (7, [.int y0, .int y1, .ref (q 37)])) : Option (Nat × va_E)) ∧ (0 ≤ y0.toInt ∧ y0.toInt ≤ 1026) ∧ (-1000000 ≤ y1.toInt ∧ y1.toInt ≤ 1000000) := by
  obtain ⟨E, h1, y0, y1, rfl, b0, b1⟩ := h 36 _ (n_s36 g q)
  exact ⟨y0, y1, h1, b0, b1⟩
theorem n_w36 {g : Nat → ClassId} {q : Nat → Nat} {ws : va_W} (h : q_I (nsh g q) q ws) {y0 : Int32} {y1 : Int32} (hx9 : ws[36]? = (some (q 36, .inr (7, [.int y0, .int y1, .ref (q 37)])) : Option (Nat × va_E))) : (0 ≤ y0.toInt ∧ y0.toInt ≤ 1026) ∧ (-1000000 ≤ y1.toInt ∧ y1.toInt ≤ 1000000) := by
  obtain ⟨z0, z1, hh9, bb9⟩ := n_o36 h
  obtain ⟨rfl, rfl⟩ : y0 = z0 ∧ y1 = z1 := by have z := Option.some.inj (hx9.symm.trans hh9); simpa using z
  exact bb9
theorem n_p36 {g : Nat → ClassId} {q : Nat → Nat} {ws u : va_W} {y0 : Int32} {y1 : Int32} (h : q_I (nsh g q) q ws) (hu : ∀ i, i ≠ 36 → u[i]? = ws[i]?) (hx : u[36]? = (some (q 36, .inr (7, [.int y0, .int y1, .ref (q 37)])) : Option (Nat × va_E))) (b0 : 0 ≤ y0.toInt ∧ y0.toInt ≤ 1026) (b1 : -1000000 ≤ y1.toInt ∧ y1.toInt ≤ 1000000) : q_I (nsh g q) q u := q_Iset h hu (n_s36 g q) hx ⟨y0, y1, rfl, b0, b1⟩
theorem n_o38 {g : Nat → ClassId} {q : Nat → Nat} {ws : va_W} (h : q_I (nsh g q) q ws) : ∃ (y0 : Int64) (y1 : Int64) (y2 : Int32) (y3 : Int32) (y4 : Int32) (y5 : Int32) (y6 : Int32) (y7 : Int32) (y8 : Int32) (y9 : Int64), ws[38]? = (some (q 38, .inr (8, [.long y0, .long y1, .ref (q 1), .ref (q 9), .int y2, .int y3, .int y4, .int y5, .int y6, .int y7, .int y8, .long y9])) : Option (Nat × va_E)) ∧ (0 ≤ y4.toInt ∧ y4.toInt ≤ 1) ∧ (0 ≤ y8.toInt ∧ y8.toInt ≤ 1) := by
  obtain ⟨E, h1, y0, y1, y2, y3, y4, y5, y6, y7, y8, y9, rfl, b0, b1⟩ := h 38 _ (n_s38 g q)
  exact ⟨y0, y1, y2, y3, y4, y5, y6, y7, y8, y9, h1, b0, b1⟩
theorem n_w38 {g : Nat → ClassId} {q : Nat → Nat} {ws : va_W} (h : q_I (nsh g q) q ws) {y0 : Int64} {y1 : Int64} {y2 : Int32} {y3 : Int32} {y4 : Int32} {y5 : Int32} {y6 : Int32} {y7 : Int32} {y8 : Int32} {y9 : Int64} (hx9 : ws[38]? = (some (q 38, .inr (8, [.long y0, .long y1, .ref (q 1), .ref (q 9), .int y2, .int y3, .int y4, .int y5, .int y6, .int y7, .int y8, .long y9])) : Option (Nat × va_E))) : (0 ≤ y4.toInt ∧ y4.toInt ≤ 1) ∧ (0 ≤ y8.toInt ∧ y8.toInt ≤ 1) := by
  obtain ⟨z0, z1, z2, z3, z4, z5, z6, z7, z8, z9, hh9, bb9⟩ := n_o38 h
  obtain ⟨rfl, rfl, rfl, rfl, rfl, rfl, rfl, rfl, rfl, rfl⟩ : y0 = z0 ∧ y1 = z1 ∧ y2 = z2 ∧ y3 = z3 ∧ y4 = z4 ∧ y5 = z5 ∧ y6 = z6 ∧ y7 = z7 ∧ y8 = z8 ∧ y9 = z9 := by have z := Option.some.inj (hx9.symm.trans hh9); simpa using z
  exact bb9
theorem n_p38 {g : Nat → ClassId} {q : Nat → Nat} {ws u : va_W} {y0 : Int64} {y1 : Int64} {y2 : Int32} {y3 : Int32} {y4 : Int32} {y5 : Int32} {y6 : Int32} {y7 : Int32} {y8 : Int32} {y9 : Int64} (h : q_I (nsh g q) q ws) (hu : ∀ i, i ≠ 38 → u[i]? = ws[i]?) (hx : u[38]? = (some (q 38, .inr (8, [.long y0, .long y1, .ref (q 1), .ref (q 9), .int y2, .int y3, .int y4, .int y5, .int y6, .int y7, .int y8, .long y9])) : Option (Nat × va_E))) (b0 : 0 ≤ y4.toInt ∧ y4.toInt ≤ 1) (b1 : 0 ≤ y8.toInt ∧ y8.toInt ≤ 1) : q_I (nsh g q) q u := q_Iset h hu (n_s38 g q) hx ⟨y0, y1, y2, y3, y4, y5, y6, y7, y8, y9, rfl, b0, b1⟩
theorem n_o39 {g : Nat → ClassId} {q : Nat → Nat} {ws : va_W} (h : q_I (nsh g q) q ws) : ws[39]? = (some (q 39, .inr (9, [.ref (q 3), .ref (q 9), .ref (q 36)])) : Option (Nat × va_E)) := by
  obtain ⟨E, h1, rfl⟩ := h 39 _ (n_s39 g q)
  exact h1
theorem n_o40 {g : Nat → ClassId} {q : Nat → Nat} {ws : va_W} (h : q_I (nsh g q) q ws) : ∃ (y0 : Int32) (y1 : Int32) (y2 : Int32) (y3 : Int32), ws[40]? = (some (q 40, .inr (11, [.int y0, .ref (q 41), .ref (q 42), .ref (q 43), .ref (q 44), .ref (q 1), .ref (q 47), .ref (q 36), .ref (q 45), .int y1, .int y2, .int y3])) : Option (Nat × va_E)) ∧ (0 ≤ y0.toInt ∧ y0.toInt ≤ 9) ∧ (-1 ≤ y1.toInt ∧ y1.toInt ≤ 1000000) ∧ (-1 ≤ y3.toInt ∧ y3.toInt ≤ 8) := by
  obtain ⟨E, h1, y0, y1, y2, y3, rfl, b0, b1, b2⟩ := h 40 _ (n_s40 g q)
  exact ⟨y0, y1, y2, y3, h1, b0, b1, b2⟩
theorem n_w40 {g : Nat → ClassId} {q : Nat → Nat} {ws : va_W} (h : q_I (nsh g q) q ws) {y0 : Int32} {y1 : Int32} {y2 : Int32} {y3 : Int32} (hx9 : ws[40]? = (some (q 40, .inr (11, [.int y0, .ref (q 41), .ref (q 42), .ref (q 43), .ref (q 44), .ref (q 1), .ref (q 47), .ref (q 36), .ref (q 45), .int y1, .int y2, .int y3])) : Option (Nat × va_E))) : (0 ≤ y0.toInt ∧ y0.toInt ≤ 9) ∧ (-1 ≤ y1.toInt ∧ y1.toInt ≤ 1000000) ∧ (-1 ≤ y3.toInt ∧ y3.toInt ≤ 8) := by
  obtain ⟨z0, z1, z2, z3, hh9, bb9⟩ := n_o40 h
  obtain ⟨rfl, rfl, rfl, rfl⟩ : y0 = z0 ∧ y1 = z1 ∧ y2 = z2 ∧ y3 = z3 := by have z := Option.some.inj (hx9.symm.trans hh9); simpa using z
  exact bb9
theorem n_p40 {g : Nat → ClassId} {q : Nat → Nat} {ws u : va_W} {y0 : Int32} {y1 : Int32} {y2 : Int32} {y3 : Int32} (h : q_I (nsh g q) q ws) (hu : ∀ i, i ≠ 40 → u[i]? = ws[i]?) (hx : u[40]? = (some (q 40, .inr (11, [.int y0, .ref (q 41), .ref (q 42), .ref (q 43), .ref (q 44), .ref (q 1), .ref (q 47), .ref (q 36), .ref (q 45), .int y1, .int y2, .int y3])) : Option (Nat × va_E))) (b0 : 0 ≤ y0.toInt ∧ y0.toInt ≤ 9) (b1 : -1 ≤ y1.toInt ∧ y1.toInt ≤ 1000000) (b2 : -1 ≤ y3.toInt ∧ y3.toInt ≤ 8) : q_I (nsh g q) q u := q_Iset h hu (n_s40 g q) hx ⟨y0, y1, y2, y3, rfl, b0, b1, b2⟩
theorem n_o47 {g : Nat → ClassId} {q : Nat → Nat} {ws : va_W} (h : q_I (nsh g q) q ws) : ∃ (y0 : Int32) (y1 : Int32) (y2 : Int32) (y3 : Int32) (y4 : Int32) (y5 : Int32) (y6 : Int32), ws[47]? = (some (q 47, .inr (10, [.int y0, .int y1, .int y2, .int y3, .int y4, .int y5, .ref (q 1), .int y6])) : Option (Nat × va_E)) ∧ (-1 ≤ y2.toInt ∧ y2.toInt ≤ 9999) ∧ (-1 ≤ y3.toInt ∧ y3.toInt ≤ 9999) ∧ (0 ≤ y6.toInt ∧ y6.toInt ≤ 1) := by
  obtain ⟨E, h1, y0, y1, y2, y3, y4, y5, y6, rfl, b0, b1, b2⟩ := h 47 _ (n_s47 g q)
  exact ⟨y0, y1, y2, y3, y4, y5, y6, h1, b0, b1, b2⟩
theorem n_w47 {g : Nat → ClassId} {q : Nat → Nat} {ws : va_W} (h : q_I (nsh g q) q ws) {y0 : Int32} {y1 : Int32} {y2 : Int32} {y3 : Int32} {y4 : Int32} {y5 : Int32} {y6 : Int32} (hx9 : ws[47]? = (some (q 47, .inr (10, [.int y0, .int y1, .int y2, .int y3, .int y4, .int y5, .ref (q 1), .int y6])) : Option (Nat × va_E))) : (-1 ≤ y2.toInt ∧ y2.toInt ≤ 9999) ∧ (-1 ≤ y3.toInt ∧ y3.toInt ≤ 9999) ∧ (0 ≤ y6.toInt ∧ y6.toInt ≤ 1) := by
  obtain ⟨z0, z1, z2, z3, z4, z5, z6, hh9, bb9⟩ := n_o47 h
  obtain ⟨rfl, rfl, rfl, rfl, rfl, rfl, rfl⟩ : y0 = z0 ∧ y1 = z1 ∧ y2 = z2 ∧ y3 = z3 ∧ y4 = z4 ∧ y5 = z5 ∧ y6 = z6 := by have z := Option.some.inj (hx9.symm.trans hh9); simpa using z
  exact bb9
theorem n_p47 {g : Nat → ClassId} {q : Nat → Nat} {ws u : va_W} {y0 : Int32} {y1 : Int32} {y2 : Int32} {y3 : Int32} {y4 : Int32} {y5 : Int32} {y6 : Int32} (h : q_I (nsh g q) q ws) (hu : ∀ i, i ≠ 47 → u[i]? = ws[i]?) (hx : u[47]? = (some (q 47, .inr (10, [.int y0, .int y1, .int y2, .int y3, .int y4, .int y5, .ref (q 1), .int y6])) : Option (Nat × va_E))) (b0 : -1 ≤ y2.toInt ∧ y2.toInt ≤ 9999) (b1 : -1 ≤ y3.toInt ∧ y3.toInt ≤ 9999) (b2 : 0 ≤ y6.toInt ∧ y6.toInt ≤ 1) : q_I (nsh g q) q u := q_Iset h hu (n_s47 g q) hx ⟨y0, y1, y2, y3, y4, y5, y6, rfl, b0, b1, b2⟩
theorem n_shO {g : Nat → ClassId} {q : Nat → Nat} {ws : va_W} {k : Nat} {R N K : Int32} (h : q_I (nsh g q) q ws) (b : q_isShe (nsh g q) g q k R N K) : ∃ y1 : Int32, ws[k]? = (some (q k, .inr (1, [.ref (q (k + 1)), .int R, .int y1])) : Option (Nat × va_E)) ∧ (0 ≤ y1.toInt ∧ y1.toInt ≤ K.toInt) := by
  obtain ⟨E, h1, y1, rfl, h2⟩ := h k _ b.1
  exact ⟨y1, h1, h2⟩
theorem n_shW {g : Nat → ClassId} {q : Nat → Nat} {ws : va_W} {k : Nat} {R N K : Int32} (h : q_I (nsh g q) q ws) (b : q_isShe (nsh g q) g q k R N K) {y1 : Int32} (hx9 : ws[k]? = (some (q k, .inr (1, [.ref (q (k + 1)), .int R, .int y1])) : Option (Nat × va_E))) : (0 ≤ y1.toInt ∧ y1.toInt ≤ K.toInt) := by
  obtain ⟨z0, hh9, bb9⟩ := n_shO h b
  obtain rfl : y1 = z0 := by have z := Option.some.inj (hx9.symm.trans hh9); simpa using z
  exact bb9
theorem n_shO' {g : Nat → ClassId} {q : Nat → Nat} {ws u : va_W} {k : Nat} {R N K y1 : Int32} (h : q_I (nsh g q) q ws) (b : q_isShe (nsh g q) g q k R N K) (hu : ∀ i, i ≠ k → u[i]? = ws[i]?) (hx : u[k]? = (some (q k, .inr (1, [.ref (q (k + 1)), .int R, .int y1])) : Option (Nat × va_E))) (h1 : 0 ≤ y1.toInt ∧ y1.toInt ≤ K.toInt) : q_I (nsh g q) q u := q_Iset h hu b.1 hx ⟨y1, rfl, h1⟩
theorem n_deO {g : Nat → ClassId} {q : Nat → Nat} {ws : va_W} {k : Nat} {R : Int32} (h : q_I (nsh g q) q ws) (b : q_isDec (nsh g q) g q k R) : ∃ y1 y2 : Int32, ws[k]? = (some (q k, .inr (3, [.ref (q (k + 1)), .int y1, .int y2])) : Option (Nat × va_E)) ∧ (-10000 ≤ y1.toInt ∧ y1.toInt ≤ 10000) ∧ (1 ≤ y2.toInt ∧ y2.toInt ≤ 1000) := by
  obtain ⟨E, h1, y1, y2, rfl, h2⟩ := h k _ b.1
  exact ⟨y1, y2, h1, h2⟩
theorem n_deW {g : Nat → ClassId} {q : Nat → Nat} {ws : va_W} {k : Nat} {R : Int32} (h : q_I (nsh g q) q ws) (b : q_isDec (nsh g q) g q k R) {y1 : Int32} {y2 : Int32} (hx9 : ws[k]? = (some (q k, .inr (3, [.ref (q (k + 1)), .int y1, .int y2])) : Option (Nat × va_E))) : (-10000 ≤ y1.toInt ∧ y1.toInt ≤ 10000) ∧ (1 ≤ y2.toInt ∧ y2.toInt ≤ 1000) := by
  obtain ⟨z0, z1, hh9, bb9⟩ := n_deO h b
  obtain ⟨rfl, rfl⟩ : y1 = z0 ∧ y2 = z1 := by have z := Option.some.inj (hx9.symm.trans hh9); simpa using z
  exact bb9
theorem n_deO' {g : Nat → ClassId} {q : Nat → Nat} {ws u : va_W} {k : Nat} {R y1 y2 : Int32} (h : q_I (nsh g q) q ws) (b : q_isDec (nsh g q) g q k R) (hu : ∀ i, i ≠ k → u[i]? = ws[i]?) (hx : u[k]? = (some (q k, .inr (3, [.ref (q (k + 1)), .int y1, .int y2])) : Option (Nat × va_E))) (h1 : -10000 ≤ y1.toInt ∧ y1.toInt ≤ 10000) (h2 : 1 ≤ y2.toInt ∧ y2.toInt ≤ 1000) : q_I (nsh g q) q u := q_Iset h hu b.1 hx ⟨y1, y2, rfl, h1, h2⟩
theorem n_flO {g : Nat → ClassId} {q : Nat → Nat} {ws : va_W} {k : Nat} {a b c : Int32} (h : q_I (nsh g q) q ws) (B : q_isFlo (nsh g q) q k a b c) : ∃ (y1 : Int64) (y2 y3 : Int32), ws[k]? = (some (q k, .inr (6, [.int a, .int b, .int c, .long y1, .int y2, .ref (q 9), .int y3])) : Option (Nat × va_E)) := by
  obtain ⟨E, h1, y1, y2, y3, rfl⟩ := h k _ B.1
  exact ⟨y1, y2, y3, h1⟩
theorem n_flO' {g : Nat → ClassId} {q : Nat → Nat} {ws u : va_W} {k : Nat} {a b c y2 y3 : Int32} {y1 : Int64} (h : q_I (nsh g q) q ws) (B : q_isFlo (nsh g q) q k a b c) (hu : ∀ i, i ≠ k → u[i]? = ws[i]?) (hx : u[k]? = (some (q k, .inr (6, [.int a, .int b, .int c, .long y1, .int y2, .ref (q 9), .int y3])) : Option (Nat × va_E))) : q_I (nsh g q) q u := q_Iset h hu B.1 hx ⟨y1, y2, y3, rfl⟩
theorem n_h1 (g : Nat → ClassId) (q : Nat → Nat) : q_isShe (nsh g q) g q 1 4100 513 4100 := ⟨rfl, rfl, by decide, by decide⟩
theorem n_h3 (g : Nat → ClassId) (q : Nat → Nat) : q_isShe (nsh g q) g q 3 11008 1376 1000000 := ⟨rfl, rfl, by decide, by decide⟩
theorem n_b10 (g : Nat → ClassId) (q : Nat → Nat) : q_isBig (nsh g q) g q 10 220 := ⟨rfl, rfl, by decide, by decide⟩
theorem n_b12 (g : Nat → ClassId) (q : Nat → Nat) : q_isBig (nsh g q) g q 12 220 := ⟨rfl, rfl, by decide, by decide⟩
theorem n_b14 (g : Nat → ClassId) (q : Nat → Nat) : q_isBig (nsh g q) g q 14 220 := ⟨rfl, rfl, by decide, by decide⟩
theorem n_b16 (g : Nat → ClassId) (q : Nat → Nat) : q_isBig (nsh g q) g q 16 220 := ⟨rfl, rfl, by decide, by decide⟩
theorem n_b18 (g : Nat → ClassId) (q : Nat → Nat) : q_isBig (nsh g q) g q 18 220 := ⟨rfl, rfl, by decide, by decide⟩
theorem n_b20 (g : Nat → ClassId) (q : Nat → Nat) : q_isBig (nsh g q) g q 20 220 := ⟨rfl, rfl, by decide, by decide⟩
theorem n_b22 (g : Nat → ClassId) (q : Nat → Nat) : q_isBig (nsh g q) g q 22 220 := ⟨rfl, rfl, by decide, by decide⟩
theorem n_b24 (g : Nat → ClassId) (q : Nat → Nat) : q_isBig (nsh g q) g q 24 220 := ⟨rfl, rfl, by decide, by decide⟩
theorem n_b26 (g : Nat → ClassId) (q : Nat → Nat) : q_isBig (nsh g q) g q 26 220 := ⟨rfl, rfl, by decide, by decide⟩
theorem n_b28 (g : Nat → ClassId) (q : Nat → Nat) : q_isBig (nsh g q) g q 28 220 := ⟨rfl, rfl, by decide, by decide⟩
theorem n_b32 (g : Nat → ClassId) (q : Nat → Nat) : q_isBig (nsh g q) g q 32 3 := ⟨rfl, rfl, by decide, by decide⟩
theorem n_f34 (g : Nat → ClassId) (q : Nat → Nat) : q_isFlo (nsh g q) q 34 52 1075 2047 := ⟨rfl, by decide, by decide, by decide, by decide⟩
theorem n_f35 (g : Nat → ClassId) (q : Nat → Nat) : q_isFlo (nsh g q) q 35 23 150 255 := ⟨rfl, by decide, by decide, by decide, by decide⟩
theorem n_h45 (g : Nat → ClassId) (q : Nat → Nat) : q_isShe (nsh g q) g q 45 4104 513 1000000 := ⟨rfl, rfl, by decide, by decide⟩
theorem n_d31 (g : Nat → ClassId) (q : Nat → Nat) : q_isDec (nsh g q) g q 31 3 := ⟨rfl, rfl, rfl, by decide, by decide⟩
theorem n_w (g : Nat → ClassId) (q : Nat → Nat) {j : Nat} (h : j < 10) : q_isBig (nsh g q) g q (66 + 5 * j) 68 := by
  rcases (show j = 0 ∨ j = 1 ∨ j = 2 ∨ j = 3 ∨ j = 4 ∨ j = 5 ∨ j = 6 ∨ j = 7 ∨ j = 8 ∨ j = 9 by omega) with rfl | rfl | rfl | rfl | rfl | rfl | rfl | rfl | rfl | rfl <;> exact ⟨rfl, rfl, by decide, by decide⟩
theorem n_d (g : Nat → ClassId) (q : Nat → Nat) {j : Nat} (h : j < 10) : q_isDec (nsh g q) g q (68 + 5 * j) 108 := by
  rcases (show j = 0 ∨ j = 1 ∨ j = 2 ∨ j = 3 ∨ j = 4 ∨ j = 5 ∨ j = 6 ∨ j = 7 ∨ j = 8 ∨ j = 9 by omega) with rfl | rfl | rfl | rfl | rfl | rfl | rfl | rfl | rfl | rfl <;> exact ⟨rfl, rfl, rfl, by decide, by decide⟩
theorem n_t (g : Nat → ClassId) (q : Nat → Nat) {j : Nat} (h : j < 9) : q_isShe (nsh g q) g q (48 + 2 * j) 64 8 64 := by
  rcases (show j = 0 ∨ j = 1 ∨ j = 2 ∨ j = 3 ∨ j = 4 ∨ j = 5 ∨ j = 6 ∨ j = 7 ∨ j = 8 by omega) with rfl | rfl | rfl | rfl | rfl | rfl | rfl | rfl | rfl <;> exact ⟨rfl, rfl, by decide, by decide⟩
section QJ
variable {p : Program} {l : Launch} {e : Env} {R : Room} {s : State} {m : MethodId} {args : Array Value} {below : List Frame} {meth : Method} {c : Code} {H0 : Heap} {locs0 : List Loc} {cells slots : Nat} {Q : State → Prop} {pc : Nat} {ls0 : Array Slot} {rest : List Value}
/-- where roads meet: what is shown once for all of them -/
theorem q_join {X : Type} (I : X → Heap → List Loc → Array Slot → va_W → Prop) (stk : X → List Value) (j cells' slots' : Nat)
    (body : ∀ (x : X) (H : Heap) (locs : List Loc) (ls : Array Slot) (u : va_W), I x H locs ls u → W p l e R s m args below meth c H locs cells' slots' Q (F0 m j ls (stk x)))
    (main : (∀ (x : X) (H : Heap) (locs : List Loc) (ls : Array Slot) (u : va_W), I x H locs ls u → W p l e R s m args below meth c H locs cells' slots' Q (F0 m j ls (stk x))) → W p l e R s m args below meth c H0 locs0 cells slots Q (F0 m pc ls0 rest)) : W p l e R s m args below meth c H0 locs0 cells slots Q (F0 m pc ls0 rest) := main body
end QJ
theorem n_shr {x c : Int32} (k : Nat) (hc : (c &&& 31).toBitVec.smod 32 = BitVec.ofNat 32 k) (hk : k ≤ 31) (h0 : 0 ≤ x.toInt) : (2 ^ k : Int) * (x >>> (c &&& 31)).toInt ≤ x.toInt ∧ x.toInt ≤ (2 ^ k : Int) * (x >>> (c &&& 31)).toInt + (2 ^ k - 1) := by
  rw [s_shr k hc hk h0]
  have h1 : (0 : Int) < 2 ^ k := Int.pow_pos (by decide)
  have h2 := Int.mul_ediv_self_le (x := x.toInt) (k := 2 ^ k) (by omega)
  have h3 := Int.lt_mul_ediv_self_add (x := x.toInt) h1
  exact ⟨h2, by omega⟩
theorem n_divI {a b : Int32} {n : Int} (hb : b.toInt = n) (hn : 0 < n) : (0 ≤ a.toInt ∧ n * (a / b).toInt ≤ a.toInt ∧ a.toInt ≤ n * (a / b).toInt + (n - 1)) ∨ (a.toInt < 0 ∧ a.toInt ≤ n * (a / b).toInt ∧ n * (a / b).toInt ≤ a.toInt + (n - 1)) := by
  have hlo := Int32.le_toInt a
  have hhi := Int32.toInt_lt a
  by_cases h : 0 ≤ a.toInt
  · have h1 : a.toInt.tdiv n = a.toInt / n := Int.tdiv_eq_ediv_of_nonneg h
    have h2 := Int.mul_ediv_self_le (x := a.toInt) (k := n) (by omega)
    have h3 := Int.lt_mul_ediv_self_add (x := a.toInt) hn
    have h4 : 0 ≤ a.toInt / n := Int.ediv_nonneg h (by omega)
    have h5 : a.toInt / n ≤ a.toInt := Int.ediv_le_self n h
    have e : (a / b).toInt = a.toInt / n := by rw [Int32.toInt_div, hb, h1]; exact q_bm (by omega) (by omega)
    left; rw [e]; exact ⟨h, h2, by omega⟩
  · have h1 : a.toInt.tdiv n = -((-a.toInt) / n) := by
      have h2 : a.toInt = -(-a.toInt) := by omega
      rw [h2, Int.neg_tdiv, Int.tdiv_eq_ediv_of_nonneg (by omega)]
      simp
    have h2 := Int.mul_ediv_self_le (x := -a.toInt) (k := n) (by omega)
    have h3 := Int.lt_mul_ediv_self_add (x := -a.toInt) hn
    have h4 : 0 ≤ -a.toInt / n := Int.ediv_nonneg (by omega) (by omega)
    have h5 : -a.toInt / n ≤ -a.toInt := Int.ediv_le_self n (by omega)
    have e : (a / b).toInt = -((-a.toInt) / n) := by rw [Int32.toInt_div, hb, h1]; exact q_bm (by omega) (by omega)
    have h6 : n * -(-a.toInt / n) = -(n * (-a.toInt / n)) := Int.mul_neg _ _
    right; rw [e]; exact ⟨by omega, by omega, by omega⟩

/-! Sheet -/
theorem d_11_2_0 : decode prog_11_method_2_code 0 = .ok (.aload_n 0, 1) := by decide +kernel
theorem d_11_2_1 : decode prog_11_method_2_code 1 = .ok (.iconst 0, 1) := by decide +kernel
theorem d_11_2_2 : decode prog_11_method_2_code 2 = .ok (.putfield 17, 3) := by decide +kernel
set_option maxRecDepth 100000 in
theorem w_54 : (Cond.fieldLink "NumberHouse$Sheet" (17 : Nat) "NumberHouse$Sheet" "size" "I") ∈ q_tbl := q_of1 54 rfl (by decide +kernel)
theorem d_11_2_5 : decode prog_11_method_2_code 5 = .ok (.return_, 1) := by decide +kernel
def y_She_clear : MethodName := ⟨"NumberHouse$Sheet", "clear", "()V"⟩
theorem d_11_3_0 : decode prog_11_method_3_code 0 = .ok (.aload_n 0, 1) := by decide +kernel
theorem d_11_3_1 : decode prog_11_method_3_code 1 = .ok (.getfield 17, 3) := by decide +kernel
theorem d_11_3_4 : decode prog_11_method_3_code 4 = .ok (.aload_n 0, 1) := by decide +kernel
theorem d_11_3_5 : decode prog_11_method_3_code 5 = .ok (.getfield 7, 3) := by decide +kernel
theorem d_11_3_8 : decode prog_11_method_3_code 8 = .ok (.if_icmp .ge 55, 3) := by decide +kernel
theorem d_11_3_63 : decode prog_11_method_3_code 63 = .ok (.aload_n 0, 1) := by decide +kernel
theorem d_11_3_64 : decode prog_11_method_3_code 64 = .ok (.dup, 1) := by decide +kernel
theorem d_11_3_65 : decode prog_11_method_3_code 65 = .ok (.getfield 17, 3) := by decide +kernel
theorem d_11_3_68 : decode prog_11_method_3_code 68 = .ok (.iconst 1, 1) := by decide +kernel
theorem d_11_3_69 : decode prog_11_method_3_code 69 = .ok (.iadd, 1) := by decide +kernel
theorem d_11_3_70 : decode prog_11_method_3_code 70 = .ok (.putfield 17, 3) := by decide +kernel
theorem d_11_3_73 : decode prog_11_method_3_code 73 = .ok (.return_, 1) := by decide +kernel
theorem d_11_3_11 : decode prog_11_method_3_code 11 = .ok (.bipush 8, 2) := by decide +kernel
theorem d_11_3_13 : decode prog_11_method_3_code 13 = .ok (.aload_n 0, 1) := by decide +kernel
theorem d_11_3_14 : decode prog_11_method_3_code 14 = .ok (.getfield 17, 3) := by decide +kernel
theorem d_11_3_17 : decode prog_11_method_3_code 17 = .ok (.bipush 7, 2) := by decide +kernel
theorem d_11_3_19 : decode prog_11_method_3_code 19 = .ok (.iand, 1) := by decide +kernel
theorem d_11_3_20 : decode prog_11_method_3_code 20 = .ok (.imul, 1) := by decide +kernel
theorem d_11_3_21 : decode prog_11_method_3_code 21 = .ok (.istore_n 2, 1) := by decide +kernel
theorem d_11_3_22 : decode prog_11_method_3_code 22 = .ok (.aload_n 0, 1) := by decide +kernel
theorem d_11_3_23 : decode prog_11_method_3_code 23 = .ok (.getfield 13, 3) := by decide +kernel
theorem d_11_3_26 : decode prog_11_method_3_code 26 = .ok (.aload_n 0, 1) := by decide +kernel
theorem d_11_3_27 : decode prog_11_method_3_code 27 = .ok (.getfield 17, 3) := by decide +kernel
theorem d_11_3_30 : decode prog_11_method_3_code 30 = .ok (.iconst 3, 1) := by decide +kernel
theorem d_11_3_31 : decode prog_11_method_3_code 31 = .ok (.ishr, 1) := by decide +kernel
theorem d_11_3_32 : decode prog_11_method_3_code 32 = .ok (.aload_n 0, 1) := by decide +kernel
theorem d_11_3_33 : decode prog_11_method_3_code 33 = .ok (.getfield 13, 3) := by decide +kernel
theorem d_11_3_36 : decode prog_11_method_3_code 36 = .ok (.aload_n 0, 1) := by decide +kernel
theorem d_11_3_37 : decode prog_11_method_3_code 37 = .ok (.getfield 17, 3) := by decide +kernel
theorem d_11_3_40 : decode prog_11_method_3_code 40 = .ok (.iconst 3, 1) := by decide +kernel
theorem d_11_3_41 : decode prog_11_method_3_code 41 = .ok (.ishr, 1) := by decide +kernel
theorem d_11_3_42 : decode prog_11_method_3_code 42 = .ok (.laload, 1) := by decide +kernel
theorem d_11_3_43 : decode prog_11_method_3_code 43 = .ok (.ldc2_w 20, 3) := by decide +kernel
set_option maxRecDepth 100000 in
theorem w_565 : (Cond.constantLong "NumberHouse$Sheet" (20 : Nat) (255 : Int64)) ∈ q_tbl := q_of3 85 rfl (by decide +kernel)
theorem d_11_3_46 : decode prog_11_method_3_code 46 = .ok (.iload_n 2, 1) := by decide +kernel
theorem d_11_3_47 : decode prog_11_method_3_code 47 = .ok (.lshl, 1) := by decide +kernel
theorem d_11_3_48 : decode prog_11_method_3_code 48 = .ok (.ldc2_w 22, 3) := by decide +kernel
set_option maxRecDepth 100000 in
theorem w_566 : (Cond.constantLong "NumberHouse$Sheet" (22 : Nat) (-1 : Int64)) ∈ q_tbl := q_of3 86 rfl (by decide +kernel)
theorem d_11_3_51 : decode prog_11_method_3_code 51 = .ok (.lxor, 1) := by decide +kernel
theorem d_11_3_52 : decode prog_11_method_3_code 52 = .ok (.land, 1) := by decide +kernel
theorem d_11_3_53 : decode prog_11_method_3_code 53 = .ok (.iload_n 1, 1) := by decide +kernel
theorem d_11_3_54 : decode prog_11_method_3_code 54 = .ok (.sipush 255, 3) := by decide +kernel
theorem d_11_3_57 : decode prog_11_method_3_code 57 = .ok (.iand, 1) := by decide +kernel
theorem d_11_3_58 : decode prog_11_method_3_code 58 = .ok (.i2l, 1) := by decide +kernel
theorem d_11_3_59 : decode prog_11_method_3_code 59 = .ok (.iload_n 2, 1) := by decide +kernel
theorem d_11_3_60 : decode prog_11_method_3_code 60 = .ok (.lshl, 1) := by decide +kernel
theorem d_11_3_61 : decode prog_11_method_3_code 61 = .ok (.lor, 1) := by decide +kernel
theorem d_11_3_62 : decode prog_11_method_3_code 62 = .ok (.lastore, 1) := by decide +kernel
def y_She_add : MethodName := ⟨"NumberHouse$Sheet", "add", "(I)V"⟩
theorem d_11_8_0 : decode prog_11_method_8_code 0 = .ok (.lload_n 1, 1) := by decide +kernel
theorem d_11_8_1 : decode prog_11_method_8_code 1 = .ok (.lconst 0, 1) := by decide +kernel
theorem d_11_8_2 : decode prog_11_method_8_code 2 = .ok (.lcmp, 1) := by decide +kernel
theorem d_11_8_3 : decode prog_11_method_8_code 3 = .ok (.ifCond .lt 23, 3) := by decide +kernel
theorem d_11_8_26 : decode prog_11_method_8_code 26 = .ok (.iconst 0, 1) := by decide +kernel
theorem d_11_8_27 : decode prog_11_method_8_code 27 = .ok (.ireturn, 1) := by decide +kernel
theorem d_11_8_6 : decode prog_11_method_8_code 6 = .ok (.lload_n 1, 1) := by decide +kernel
theorem d_11_8_7 : decode prog_11_method_8_code 7 = .ok (.aload_n 0, 1) := by decide +kernel
theorem d_11_8_8 : decode prog_11_method_8_code 8 = .ok (.getfield 17, 3) := by decide +kernel
theorem d_11_8_11 : decode prog_11_method_8_code 11 = .ok (.i2l, 1) := by decide +kernel
theorem d_11_8_12 : decode prog_11_method_8_code 12 = .ok (.lcmp, 1) := by decide +kernel
theorem d_11_8_13 : decode prog_11_method_8_code 13 = .ok (.ifCond .ge 13, 3) := by decide +kernel
theorem d_11_8_16 : decode prog_11_method_8_code 16 = .ok (.lload_n 1, 1) := by decide +kernel
theorem d_11_8_17 : decode prog_11_method_8_code 17 = .ok (.aload_n 0, 1) := by decide +kernel
theorem d_11_8_18 : decode prog_11_method_8_code 18 = .ok (.getfield 7, 3) := by decide +kernel
theorem d_11_8_21 : decode prog_11_method_8_code 21 = .ok (.i2l, 1) := by decide +kernel
theorem d_11_8_22 : decode prog_11_method_8_code 22 = .ok (.lcmp, 1) := by decide +kernel
theorem d_11_8_23 : decode prog_11_method_8_code 23 = .ok (.ifCond .lt 5, 3) := by decide +kernel
theorem d_11_8_28 : decode prog_11_method_8_code 28 = .ok (.aload_n 0, 1) := by decide +kernel
theorem d_11_8_29 : decode prog_11_method_8_code 29 = .ok (.getfield 13, 3) := by decide +kernel
theorem d_11_8_32 : decode prog_11_method_8_code 32 = .ok (.lload_n 1, 1) := by decide +kernel
theorem d_11_8_33 : decode prog_11_method_8_code 33 = .ok (.l2i, 1) := by decide +kernel
theorem d_11_8_34 : decode prog_11_method_8_code 34 = .ok (.iconst 3, 1) := by decide +kernel
theorem d_11_8_35 : decode prog_11_method_8_code 35 = .ok (.ishr, 1) := by decide +kernel
theorem d_11_8_36 : decode prog_11_method_8_code 36 = .ok (.laload, 1) := by decide +kernel
theorem d_11_8_37 : decode prog_11_method_8_code 37 = .ok (.bipush 8, 2) := by decide +kernel
theorem d_11_8_39 : decode prog_11_method_8_code 39 = .ok (.lload_n 1, 1) := by decide +kernel
theorem d_11_8_40 : decode prog_11_method_8_code 40 = .ok (.l2i, 1) := by decide +kernel
theorem d_11_8_41 : decode prog_11_method_8_code 41 = .ok (.bipush 7, 2) := by decide +kernel
theorem d_11_8_43 : decode prog_11_method_8_code 43 = .ok (.iand, 1) := by decide +kernel
theorem d_11_8_44 : decode prog_11_method_8_code 44 = .ok (.imul, 1) := by decide +kernel
theorem d_11_8_45 : decode prog_11_method_8_code 45 = .ok (.lushr, 1) := by decide +kernel
theorem d_11_8_46 : decode prog_11_method_8_code 46 = .ok (.l2i, 1) := by decide +kernel
theorem d_11_8_47 : decode prog_11_method_8_code 47 = .ok (.sipush 255, 3) := by decide +kernel
theorem d_11_8_50 : decode prog_11_method_8_code 50 = .ok (.iand, 1) := by decide +kernel
theorem d_11_8_51 : decode prog_11_method_8_code 51 = .ok (.ireturn, 1) := by decide +kernel
def y_She_at : MethodName := ⟨"NumberHouse$Sheet", "at", "(J)I"⟩
theorem d_11_9_0 : decode prog_11_method_9_code 0 = .ok (.iload_n 1, 1) := by decide +kernel
theorem d_11_9_1 : decode prog_11_method_9_code 1 = .ok (.ifCond .lt 43, 3) := by decide +kernel
theorem d_11_9_44 : decode prog_11_method_9_code 44 = .ok (.return_, 1) := by decide +kernel
theorem d_11_9_4 : decode prog_11_method_9_code 4 = .ok (.iload_n 1, 1) := by decide +kernel
theorem d_11_9_5 : decode prog_11_method_9_code 5 = .ok (.aload_n 0, 1) := by decide +kernel
theorem d_11_9_6 : decode prog_11_method_9_code 6 = .ok (.getfield 7, 3) := by decide +kernel
theorem d_11_9_9 : decode prog_11_method_9_code 9 = .ok (.if_icmp .ge 35, 3) := by decide +kernel
theorem d_11_9_12 : decode prog_11_method_9_code 12 = .ok (.aload_n 0, 1) := by decide +kernel
theorem d_11_9_13 : decode prog_11_method_9_code 13 = .ok (.getfield 13, 3) := by decide +kernel
theorem d_11_9_16 : decode prog_11_method_9_code 16 = .ok (.iload_n 1, 1) := by decide +kernel
theorem d_11_9_17 : decode prog_11_method_9_code 17 = .ok (.iconst 3, 1) := by decide +kernel
theorem d_11_9_18 : decode prog_11_method_9_code 18 = .ok (.ishr, 1) := by decide +kernel
theorem d_11_9_19 : decode prog_11_method_9_code 19 = .ok (.dup2, 1) := by decide +kernel
theorem d_11_9_20 : decode prog_11_method_9_code 20 = .ok (.laload, 1) := by decide +kernel
theorem d_11_9_21 : decode prog_11_method_9_code 21 = .ok (.aload_n 0, 1) := by decide +kernel
theorem d_11_9_22 : decode prog_11_method_9_code 22 = .ok (.iload_n 1, 1) := by decide +kernel
theorem d_11_9_23 : decode prog_11_method_9_code 23 = .ok (.i2l, 1) := by decide +kernel
theorem d_11_9_24 : decode prog_11_method_9_code 24 = .ok (.invokevirtual 48, 3) := by decide +kernel
set_option maxRecDepth 100000 in
theorem w_482 : (Cond.code ({ cls := "NumberHouse$Sheet", name := "at", desc := "(J)I" } : MethodName) prog_11_method_8_code (3 : Nat) (some .int)) ∈ q_tbl := q_of3 2 rfl (by decide +kernel)
set_option maxRecDepth 100000 in
theorem w_1556 : (Cond.methodLink "NumberHouse$Sheet" (48 : Nat) ({ cls := "NumberHouse$Sheet", name := "at", desc := "(J)I" } : MethodName)) ∈ q_tbl := q_of7 116 rfl (by decide +kernel)
set_option maxRecDepth 100000 in
theorem w_480 : (Cond.instanceMethod ({ cls := "NumberHouse$Sheet", name := "at", desc := "(J)I" } : MethodName)) ∈ q_tbl := q_of3 0 rfl (by decide +kernel)
set_option maxRecDepth 100000 in
theorem w_481 : (Cond.selects "NumberHouse$Sheet" ({ cls := "NumberHouse$Sheet", name := "at", desc := "(J)I" } : MethodName) ({ cls := "NumberHouse$Sheet", name := "at", desc := "(J)I" } : MethodName)) ∈ q_tbl := q_of3 1 rfl (by decide +kernel)
theorem LV_She_48 : q_LV "NumberHouse$Sheet" 48 y_She_at prog_11_method_8_code 3 (some .int) 1 := ⟨w_482, w_2, w_1556, w_480, w_481, ⟨by decide, by decide, by decide +kernel⟩⟩
theorem d_11_9_27 : decode prog_11_method_9_code 27 = .ok (.iload_n 2, 1) := by decide +kernel
theorem d_11_9_28 : decode prog_11_method_9_code 28 = .ok (.sipush 255, 3) := by decide +kernel
theorem d_11_9_31 : decode prog_11_method_9_code 31 = .ok (.iand, 1) := by decide +kernel
theorem d_11_9_32 : decode prog_11_method_9_code 32 = .ok (.ixor, 1) := by decide +kernel
theorem d_11_9_33 : decode prog_11_method_9_code 33 = .ok (.i2l, 1) := by decide +kernel
theorem d_11_9_34 : decode prog_11_method_9_code 34 = .ok (.bipush 8, 2) := by decide +kernel
theorem d_11_9_36 : decode prog_11_method_9_code 36 = .ok (.iload_n 1, 1) := by decide +kernel
theorem d_11_9_37 : decode prog_11_method_9_code 37 = .ok (.bipush 7, 2) := by decide +kernel
theorem d_11_9_39 : decode prog_11_method_9_code 39 = .ok (.iand, 1) := by decide +kernel
theorem d_11_9_40 : decode prog_11_method_9_code 40 = .ok (.imul, 1) := by decide +kernel
theorem d_11_9_41 : decode prog_11_method_9_code 41 = .ok (.lshl, 1) := by decide +kernel
theorem d_11_9_42 : decode prog_11_method_9_code 42 = .ok (.lxor, 1) := by decide +kernel
theorem d_11_9_43 : decode prog_11_method_9_code 43 = .ok (.lastore, 1) := by decide +kernel
def y_She_replace : MethodName := ⟨"NumberHouse$Sheet", "replace", "(II)V"⟩
theorem d_11_10_0 : decode prog_11_method_10_code 0 = .ok (.aload_n 0, 1) := by decide +kernel
theorem d_11_10_1 : decode prog_11_method_10_code 1 = .ok (.aload_n 0, 1) := by decide +kernel
theorem d_11_10_2 : decode prog_11_method_10_code 2 = .ok (.getfield 17, 3) := by decide +kernel
theorem d_11_10_5 : decode prog_11_method_10_code 5 = .ok (.iload_n 1, 1) := by decide +kernel
theorem d_11_10_6 : decode prog_11_method_10_code 6 = .ok (.invokestatic 56, 3) := by decide +kernel
set_option maxRecDepth 100000 in
theorem w_1860 : (Cond.methodLink "NumberHouse$Sheet" (56 : Nat) ({ cls := "java/lang/Math", name := "min", desc := "(II)I" } : MethodName)) ∈ q_tbl := q_of8 180 rfl (by decide +kernel)
theorem d_11_10_9 : decode prog_11_method_10_code 9 = .ok (.putfield 17, 3) := by decide +kernel
theorem d_11_10_12 : decode prog_11_method_10_code 12 = .ok (.return_, 1) := by decide +kernel
def y_She_cut : MethodName := ⟨"NumberHouse$Sheet", "cut", "(I)V"⟩
theorem d_11_5_0 : decode prog_11_method_5_code 0 = .ok (.iconst 0, 1) := by decide +kernel
theorem d_11_5_1 : decode prog_11_method_5_code 1 = .ok (.istore_n 3, 1) := by decide +kernel
theorem d_11_5_2 : decode prog_11_method_5_code 2 = .ok (.iload_n 3, 1) := by decide +kernel
theorem d_11_5_3 : decode prog_11_method_5_code 3 = .ok (.iload_n 2, 1) := by decide +kernel
theorem d_11_5_4 : decode prog_11_method_5_code 4 = .ok (.if_icmp .ge 14, 3) := by decide +kernel
theorem d_11_5_18 : decode prog_11_method_5_code 18 = .ok (.return_, 1) := by decide +kernel
theorem d_11_5_7 : decode prog_11_method_5_code 7 = .ok (.aload_n 0, 1) := by decide +kernel
theorem d_11_5_8 : decode prog_11_method_5_code 8 = .ok (.iload_n 1, 1) := by decide +kernel
theorem d_11_5_9 : decode prog_11_method_5_code 9 = .ok (.invokevirtual 34, 3) := by decide +kernel
set_option maxRecDepth 100000 in
theorem w_564 : (Cond.code ({ cls := "NumberHouse$Sheet", name := "add", desc := "(I)V" } : MethodName) prog_11_method_3_code (3 : Nat) (none : Option ClassFile.FieldType)) ∈ q_tbl := q_of3 84 rfl (by decide +kernel)
set_option maxRecDepth 100000 in
theorem w_1587 : (Cond.methodLink "NumberHouse$Sheet" (34 : Nat) ({ cls := "NumberHouse$Sheet", name := "add", desc := "(I)V" } : MethodName)) ∈ q_tbl := q_of7 147 rfl (by decide +kernel)
set_option maxRecDepth 100000 in
theorem w_562 : (Cond.instanceMethod ({ cls := "NumberHouse$Sheet", name := "add", desc := "(I)V" } : MethodName)) ∈ q_tbl := q_of3 82 rfl (by decide +kernel)
set_option maxRecDepth 100000 in
theorem w_563 : (Cond.selects "NumberHouse$Sheet" ({ cls := "NumberHouse$Sheet", name := "add", desc := "(I)V" } : MethodName) ({ cls := "NumberHouse$Sheet", name := "add", desc := "(I)V" } : MethodName)) ∈ q_tbl := q_of3 83 rfl (by decide +kernel)
theorem LV_She_34 : q_LV "NumberHouse$Sheet" 34 y_She_add prog_11_method_3_code 3 none 1 := ⟨w_564, w_2, w_1587, w_562, w_563, ⟨by decide, by decide, by decide +kernel⟩⟩
theorem d_11_5_12 : decode prog_11_method_5_code 12 = .ok (.iinc 3 1, 3) := by decide +kernel
theorem d_11_5_15 : decode prog_11_method_5_code 15 = .ok (.goto (-13), 3) := by decide +kernel
def y_She_addTimes : MethodName := ⟨"NumberHouse$Sheet", "addTimes", "(II)V"⟩
theorem d_11_7_0 : decode prog_11_method_7_code 0 = .ok (.iload_n 1, 1) := by decide +kernel
theorem d_11_7_1 : decode prog_11_method_7_code 1 = .ok (.istore_n 2, 1) := by decide +kernel
theorem d_11_7_2 : decode prog_11_method_7_code 2 = .ok (.aload_n 0, 1) := by decide +kernel
theorem d_11_7_3 : decode prog_11_method_7_code 3 = .ok (.getfield 17, 3) := by decide +kernel
theorem d_11_7_6 : decode prog_11_method_7_code 6 = .ok (.iconst 1, 1) := by decide +kernel
theorem d_11_7_7 : decode prog_11_method_7_code 7 = .ok (.isub, 1) := by decide +kernel
theorem d_11_7_8 : decode prog_11_method_7_code 8 = .ok (.istore_n 3, 1) := by decide +kernel
theorem d_11_7_9 : decode prog_11_method_7_code 9 = .ok (.iload_n 2, 1) := by decide +kernel
theorem d_11_7_10 : decode prog_11_method_7_code 10 = .ok (.iload_n 3, 1) := by decide +kernel
theorem d_11_7_11 : decode prog_11_method_7_code 11 = .ok (.if_icmp .ge 38, 3) := by decide +kernel
theorem d_11_7_49 : decode prog_11_method_7_code 49 = .ok (.return_, 1) := by decide +kernel
theorem d_11_7_14 : decode prog_11_method_7_code 14 = .ok (.aload_n 0, 1) := by decide +kernel
theorem d_11_7_15 : decode prog_11_method_7_code 15 = .ok (.iload_n 2, 1) := by decide +kernel
theorem d_11_7_16 : decode prog_11_method_7_code 16 = .ok (.i2l, 1) := by decide +kernel
theorem d_11_7_17 : decode prog_11_method_7_code 17 = .ok (.invokevirtual 48, 3) := by decide +kernel
theorem d_11_7_20 : decode prog_11_method_7_code 20 = .ok (.istore 4, 2) := by decide +kernel
theorem d_11_7_22 : decode prog_11_method_7_code 22 = .ok (.aload_n 0, 1) := by decide +kernel
theorem d_11_7_23 : decode prog_11_method_7_code 23 = .ok (.iload_n 2, 1) := by decide +kernel
theorem d_11_7_24 : decode prog_11_method_7_code 24 = .ok (.aload_n 0, 1) := by decide +kernel
theorem d_11_7_25 : decode prog_11_method_7_code 25 = .ok (.iload_n 3, 1) := by decide +kernel
theorem d_11_7_26 : decode prog_11_method_7_code 26 = .ok (.i2l, 1) := by decide +kernel
theorem d_11_7_27 : decode prog_11_method_7_code 27 = .ok (.invokevirtual 48, 3) := by decide +kernel
theorem d_11_7_30 : decode prog_11_method_7_code 30 = .ok (.invokevirtual 52, 3) := by decide +kernel
set_option maxRecDepth 100000 in
theorem w_1560 : (Cond.code ({ cls := "NumberHouse$Sheet", name := "replace", desc := "(II)V" } : MethodName) prog_11_method_9_code (3 : Nat) (none : Option ClassFile.FieldType)) ∈ q_tbl := q_of7 120 rfl (by decide +kernel)
set_option maxRecDepth 100000 in
theorem w_1557 : (Cond.methodLink "NumberHouse$Sheet" (52 : Nat) ({ cls := "NumberHouse$Sheet", name := "replace", desc := "(II)V" } : MethodName)) ∈ q_tbl := q_of7 117 rfl (by decide +kernel)
set_option maxRecDepth 100000 in
theorem w_1558 : (Cond.instanceMethod ({ cls := "NumberHouse$Sheet", name := "replace", desc := "(II)V" } : MethodName)) ∈ q_tbl := q_of7 118 rfl (by decide +kernel)
set_option maxRecDepth 100000 in
theorem w_1559 : (Cond.selects "NumberHouse$Sheet" ({ cls := "NumberHouse$Sheet", name := "replace", desc := "(II)V" } : MethodName) ({ cls := "NumberHouse$Sheet", name := "replace", desc := "(II)V" } : MethodName)) ∈ q_tbl := q_of7 119 rfl (by decide +kernel)
theorem LV_She_52 : q_LV "NumberHouse$Sheet" 52 y_She_replace prog_11_method_9_code 3 none 2 := ⟨w_1560, w_2, w_1557, w_1558, w_1559, ⟨by decide, by decide, by decide +kernel⟩⟩
theorem d_11_7_33 : decode prog_11_method_7_code 33 = .ok (.aload_n 0, 1) := by decide +kernel
theorem d_11_7_34 : decode prog_11_method_7_code 34 = .ok (.iload_n 3, 1) := by decide +kernel
theorem d_11_7_35 : decode prog_11_method_7_code 35 = .ok (.iload 4, 2) := by decide +kernel
theorem d_11_7_37 : decode prog_11_method_7_code 37 = .ok (.invokevirtual 52, 3) := by decide +kernel
theorem d_11_7_40 : decode prog_11_method_7_code 40 = .ok (.iinc 2 1, 3) := by decide +kernel
theorem d_11_7_43 : decode prog_11_method_7_code 43 = .ok (.iinc 3 (-1), 3) := by decide +kernel
theorem d_11_7_46 : decode prog_11_method_7_code 46 = .ok (.goto (-37), 3) := by decide +kernel
def y_She_turn : MethodName := ⟨"NumberHouse$Sheet", "turn", "(I)V"⟩
/-! Big, what is left -/
theorem d_29_66_0 : decode prog_29_method_66_code 0 = .ok (.lload_n 0, 1) := by decide +kernel
theorem d_29_66_1 : decode prog_29_method_66_code 1 = .ok (.lload_n 2, 1) := by decide +kernel
theorem d_29_66_2 : decode prog_29_method_66_code 2 = .ok (.lcmp, 1) := by decide +kernel
theorem d_29_66_3 : decode prog_29_method_66_code 3 = .ok (.ifCond .lt 7, 3) := by decide +kernel
theorem d_29_66_10 : decode prog_29_method_66_code 10 = .ok (.lload_n 2, 1) := by decide +kernel
theorem d_29_66_11 : decode prog_29_method_66_code 11 = .ok (.lreturn, 1) := by decide +kernel
theorem d_29_66_6 : decode prog_29_method_66_code 6 = .ok (.lload_n 0, 1) := by decide +kernel
theorem d_29_66_7 : decode prog_29_method_66_code 7 = .ok (.goto 4, 3) := by decide +kernel
def y_jMath_max_JJJ : MethodName := ⟨"java/lang/Math", "max", "(JJ)J"⟩
theorem d_2_31_0 : decode prog_2_method_31_code 0 = .ok (.aload_n 1, 1) := by decide +kernel
theorem d_2_31_1 : decode prog_2_method_31_code 1 = .ok (.getfield 13, 3) := by decide +kernel
theorem d_2_31_4 : decode prog_2_method_31_code 4 = .ok (.aload_n 2, 1) := by decide +kernel
theorem d_2_31_5 : decode prog_2_method_31_code 5 = .ok (.getfield 13, 3) := by decide +kernel
theorem d_2_31_8 : decode prog_2_method_31_code 8 = .ok (.iadd, 1) := by decide +kernel
theorem d_2_31_9 : decode prog_2_method_31_code 9 = .ok (.aload_n 0, 1) := by decide +kernel
theorem d_2_31_10 : decode prog_2_method_31_code 10 = .ok (.getfield 7, 3) := by decide +kernel
theorem d_2_31_13 : decode prog_2_method_31_code 13 = .ok (.arraylength, 1) := by decide +kernel
theorem d_2_31_14 : decode prog_2_method_31_code 14 = .ok (.invokestatic 39, 3) := by decide +kernel
theorem d_2_31_17 : decode prog_2_method_31_code 17 = .ok (.istore_n 3, 1) := by decide +kernel
theorem d_2_31_18 : decode prog_2_method_31_code 18 = .ok (.aload_n 0, 1) := by decide +kernel
theorem d_2_31_19 : decode prog_2_method_31_code 19 = .ok (.getfield 7, 3) := by decide +kernel
theorem d_2_31_22 : decode prog_2_method_31_code 22 = .ok (.iconst 0, 1) := by decide +kernel
theorem d_2_31_23 : decode prog_2_method_31_code 23 = .ok (.iload_n 3, 1) := by decide +kernel
theorem d_2_31_24 : decode prog_2_method_31_code 24 = .ok (.iconst 0, 1) := by decide +kernel
theorem d_2_31_25 : decode prog_2_method_31_code 25 = .ok (.invokestatic 108, 3) := by decide +kernel
set_option maxRecDepth 100000 in
theorem w_812 : (Cond.code ({ cls := "java/util/Arrays", name := "fill", desc := "([IIII)V" } : MethodName) prog_37_method_104_code (5 : Nat) (none : Option ClassFile.FieldType)) ∈ q_tbl := q_of4 92 rfl (by decide +kernel)
set_option maxRecDepth 100000 in
theorem w_810 : (Cond.methodLink "NumberHouse$Big" (108 : Nat) ({ cls := "java/util/Arrays", name := "fill", desc := "([IIII)V" } : MethodName)) ∈ q_tbl := q_of4 90 rfl (by decide +kernel)
set_option maxRecDepth 100000 in
theorem w_811 : (Cond.static ({ cls := "java/util/Arrays", name := "fill", desc := "([IIII)V" } : MethodName)) ∈ q_tbl := q_of4 91 rfl (by decide +kernel)
theorem LS_Big_108 : q_LS "NumberHouse$Big" 108 y_jArr_fill prog_37_method_104_code 5 none 4 := ⟨w_812, w_30, w_810, w_811, ⟨by decide, by decide, by decide +kernel⟩⟩
theorem d_2_31_28 : decode prog_2_method_31_code 28 = .ok (.iconst 0, 1) := by decide +kernel
theorem d_2_31_29 : decode prog_2_method_31_code 29 = .ok (.istore 4, 2) := by decide +kernel
theorem d_2_31_31 : decode prog_2_method_31_code 31 = .ok (.iload 4, 2) := by decide +kernel
theorem d_2_31_33 : decode prog_2_method_31_code 33 = .ok (.aload_n 1, 1) := by decide +kernel
theorem d_2_31_34 : decode prog_2_method_31_code 34 = .ok (.getfield 13, 3) := by decide +kernel
theorem d_2_31_37 : decode prog_2_method_31_code 37 = .ok (.if_icmp .ge 125, 3) := by decide +kernel
theorem d_2_31_162 : decode prog_2_method_31_code 162 = .ok (.aload_n 0, 1) := by decide +kernel
theorem d_2_31_163 : decode prog_2_method_31_code 163 = .ok (.iload_n 3, 1) := by decide +kernel
theorem d_2_31_164 : decode prog_2_method_31_code 164 = .ok (.putfield 13, 3) := by decide +kernel
theorem d_2_31_167 : decode prog_2_method_31_code 167 = .ok (.aload_n 0, 1) := by decide +kernel
theorem d_2_31_168 : decode prog_2_method_31_code 168 = .ok (.aload_n 1, 1) := by decide +kernel
theorem d_2_31_169 : decode prog_2_method_31_code 169 = .ok (.getfield 17, 3) := by decide +kernel
theorem d_2_31_172 : decode prog_2_method_31_code 172 = .ok (.aload_n 2, 1) := by decide +kernel
theorem d_2_31_173 : decode prog_2_method_31_code 173 = .ok (.getfield 17, 3) := by decide +kernel
theorem d_2_31_176 : decode prog_2_method_31_code 176 = .ok (.if_icmp .eq 7, 3) := by decide +kernel
theorem d_2_31_183 : decode prog_2_method_31_code 183 = .ok (.iconst 0, 1) := by decide +kernel
theorem d_2_31_184 : decode prog_2_method_31_code 184 = .ok (.putfield 17, 3) := by decide +kernel
theorem d_2_31_187 : decode prog_2_method_31_code 187 = .ok (.aload_n 0, 1) := by decide +kernel
theorem d_2_31_188 : decode prog_2_method_31_code 188 = .ok (.invokevirtual 36, 3) := by decide +kernel
theorem d_2_31_191 : decode prog_2_method_31_code 191 = .ok (.return_, 1) := by decide +kernel
theorem d_2_31_179 : decode prog_2_method_31_code 179 = .ok (.iconst 1, 1) := by decide +kernel
theorem d_2_31_180 : decode prog_2_method_31_code 180 = .ok (.goto 4, 3) := by decide +kernel
theorem d_2_31_40 : decode prog_2_method_31_code 40 = .ok (.aload_n 2, 1) := by decide +kernel
theorem d_2_31_41 : decode prog_2_method_31_code 41 = .ok (.getfield 13, 3) := by decide +kernel
theorem d_2_31_44 : decode prog_2_method_31_code 44 = .ok (.iload_n 3, 1) := by decide +kernel
theorem d_2_31_45 : decode prog_2_method_31_code 45 = .ok (.iload 4, 2) := by decide +kernel
theorem d_2_31_47 : decode prog_2_method_31_code 47 = .ok (.isub, 1) := by decide +kernel
theorem d_2_31_48 : decode prog_2_method_31_code 48 = .ok (.invokestatic 39, 3) := by decide +kernel
theorem d_2_31_51 : decode prog_2_method_31_code 51 = .ok (.istore 5, 2) := by decide +kernel
theorem d_2_31_53 : decode prog_2_method_31_code 53 = .ok (.aload_n 1, 1) := by decide +kernel
theorem d_2_31_54 : decode prog_2_method_31_code 54 = .ok (.getfield 7, 3) := by decide +kernel
theorem d_2_31_57 : decode prog_2_method_31_code 57 = .ok (.iload 4, 2) := by decide +kernel
theorem d_2_31_59 : decode prog_2_method_31_code 59 = .ok (.iaload, 1) := by decide +kernel
theorem d_2_31_60 : decode prog_2_method_31_code 60 = .ok (.i2l, 1) := by decide +kernel
theorem d_2_31_61 : decode prog_2_method_31_code 61 = .ok (.lstore 6, 2) := by decide +kernel
theorem d_2_31_63 : decode prog_2_method_31_code 63 = .ok (.lconst 0, 1) := by decide +kernel
theorem d_2_31_64 : decode prog_2_method_31_code 64 = .ok (.lstore 8, 2) := by decide +kernel
theorem d_2_31_66 : decode prog_2_method_31_code 66 = .ok (.iconst 0, 1) := by decide +kernel
theorem d_2_31_67 : decode prog_2_method_31_code 67 = .ok (.istore 10, 2) := by decide +kernel
theorem d_2_31_69 : decode prog_2_method_31_code 69 = .ok (.iload 10, 2) := by decide +kernel
theorem d_2_31_71 : decode prog_2_method_31_code 71 = .ok (.iload 5, 2) := by decide +kernel
theorem d_2_31_73 : decode prog_2_method_31_code 73 = .ok (.if_icmp .ge 61, 3) := by decide +kernel
theorem d_2_31_134 : decode prog_2_method_31_code 134 = .ok (.iload 4, 2) := by decide +kernel
theorem d_2_31_136 : decode prog_2_method_31_code 136 = .ok (.iload 5, 2) := by decide +kernel
theorem d_2_31_138 : decode prog_2_method_31_code 138 = .ok (.iadd, 1) := by decide +kernel
theorem d_2_31_139 : decode prog_2_method_31_code 139 = .ok (.iload_n 3, 1) := by decide +kernel
theorem d_2_31_140 : decode prog_2_method_31_code 140 = .ok (.if_icmp .ge 16, 3) := by decide +kernel
theorem d_2_31_156 : decode prog_2_method_31_code 156 = .ok (.iinc 4 1, 3) := by decide +kernel
theorem d_2_31_159 : decode prog_2_method_31_code 159 = .ok (.goto (-128), 3) := by decide +kernel
theorem d_2_31_143 : decode prog_2_method_31_code 143 = .ok (.aload_n 0, 1) := by decide +kernel
theorem d_2_31_144 : decode prog_2_method_31_code 144 = .ok (.getfield 7, 3) := by decide +kernel
theorem d_2_31_147 : decode prog_2_method_31_code 147 = .ok (.iload 4, 2) := by decide +kernel
theorem d_2_31_149 : decode prog_2_method_31_code 149 = .ok (.iload 5, 2) := by decide +kernel
theorem d_2_31_151 : decode prog_2_method_31_code 151 = .ok (.iadd, 1) := by decide +kernel
theorem d_2_31_152 : decode prog_2_method_31_code 152 = .ok (.lload 8, 2) := by decide +kernel
theorem d_2_31_154 : decode prog_2_method_31_code 154 = .ok (.l2i, 1) := by decide +kernel
theorem d_2_31_155 : decode prog_2_method_31_code 155 = .ok (.iastore, 1) := by decide +kernel
theorem d_2_31_76 : decode prog_2_method_31_code 76 = .ok (.lload 6, 2) := by decide +kernel
theorem d_2_31_78 : decode prog_2_method_31_code 78 = .ok (.aload_n 2, 1) := by decide +kernel
theorem d_2_31_79 : decode prog_2_method_31_code 79 = .ok (.getfield 7, 3) := by decide +kernel
theorem d_2_31_82 : decode prog_2_method_31_code 82 = .ok (.iload 10, 2) := by decide +kernel
theorem d_2_31_84 : decode prog_2_method_31_code 84 = .ok (.iaload, 1) := by decide +kernel
theorem d_2_31_85 : decode prog_2_method_31_code 85 = .ok (.i2l, 1) := by decide +kernel
theorem d_2_31_86 : decode prog_2_method_31_code 86 = .ok (.lmul, 1) := by decide +kernel
theorem d_2_31_87 : decode prog_2_method_31_code 87 = .ok (.aload_n 0, 1) := by decide +kernel
theorem d_2_31_88 : decode prog_2_method_31_code 88 = .ok (.getfield 7, 3) := by decide +kernel
theorem d_2_31_91 : decode prog_2_method_31_code 91 = .ok (.iload 4, 2) := by decide +kernel
theorem d_2_31_93 : decode prog_2_method_31_code 93 = .ok (.iload 10, 2) := by decide +kernel
theorem d_2_31_95 : decode prog_2_method_31_code 95 = .ok (.iadd, 1) := by decide +kernel
theorem d_2_31_96 : decode prog_2_method_31_code 96 = .ok (.iaload, 1) := by decide +kernel
theorem d_2_31_97 : decode prog_2_method_31_code 97 = .ok (.i2l, 1) := by decide +kernel
theorem d_2_31_98 : decode prog_2_method_31_code 98 = .ok (.ladd, 1) := by decide +kernel
theorem d_2_31_99 : decode prog_2_method_31_code 99 = .ok (.lload 8, 2) := by decide +kernel
theorem d_2_31_101 : decode prog_2_method_31_code 101 = .ok (.ladd, 1) := by decide +kernel
theorem d_2_31_102 : decode prog_2_method_31_code 102 = .ok (.lstore 11, 2) := by decide +kernel
theorem d_2_31_104 : decode prog_2_method_31_code 104 = .ok (.aload_n 0, 1) := by decide +kernel
theorem d_2_31_105 : decode prog_2_method_31_code 105 = .ok (.getfield 7, 3) := by decide +kernel
theorem d_2_31_108 : decode prog_2_method_31_code 108 = .ok (.iload 4, 2) := by decide +kernel
theorem d_2_31_110 : decode prog_2_method_31_code 110 = .ok (.iload 10, 2) := by decide +kernel
theorem d_2_31_112 : decode prog_2_method_31_code 112 = .ok (.iadd, 1) := by decide +kernel
theorem d_2_31_113 : decode prog_2_method_31_code 113 = .ok (.lload 11, 2) := by decide +kernel
theorem d_2_31_115 : decode prog_2_method_31_code 115 = .ok (.ldc2_w 30, 3) := by decide +kernel
theorem d_2_31_118 : decode prog_2_method_31_code 118 = .ok (.land, 1) := by decide +kernel
theorem d_2_31_119 : decode prog_2_method_31_code 119 = .ok (.l2i, 1) := by decide +kernel
theorem d_2_31_120 : decode prog_2_method_31_code 120 = .ok (.iastore, 1) := by decide +kernel
theorem d_2_31_121 : decode prog_2_method_31_code 121 = .ok (.lload 11, 2) := by decide +kernel
theorem d_2_31_123 : decode prog_2_method_31_code 123 = .ok (.bipush 31, 2) := by decide +kernel
theorem d_2_31_125 : decode prog_2_method_31_code 125 = .ok (.lushr, 1) := by decide +kernel
theorem d_2_31_126 : decode prog_2_method_31_code 126 = .ok (.lstore 8, 2) := by decide +kernel
theorem d_2_31_128 : decode prog_2_method_31_code 128 = .ok (.iinc 10 1, 3) := by decide +kernel
theorem d_2_31_131 : decode prog_2_method_31_code 131 = .ok (.goto (-62), 3) := by decide +kernel
def y_Big_product : MethodName := ⟨"NumberHouse$Big", "product", "(LNumberHouse$Big;LNumberHouse$Big;)V"⟩
theorem d_2_32_0 : decode prog_2_method_32_code 0 = .ok (.iload_n 1, 1) := by decide +kernel
theorem d_2_32_1 : decode prog_2_method_32_code 1 = .ok (.bipush 31, 2) := by decide +kernel
theorem d_2_32_3 : decode prog_2_method_32_code 3 = .ok (.idiv, 1) := by decide +kernel
theorem d_2_32_4 : decode prog_2_method_32_code 4 = .ok (.istore_n 2, 1) := by decide +kernel
theorem d_2_32_5 : decode prog_2_method_32_code 5 = .ok (.iload_n 1, 1) := by decide +kernel
theorem d_2_32_6 : decode prog_2_method_32_code 6 = .ok (.bipush 31, 2) := by decide +kernel
theorem d_2_32_8 : decode prog_2_method_32_code 8 = .ok (.irem, 1) := by decide +kernel
theorem d_2_32_9 : decode prog_2_method_32_code 9 = .ok (.istore_n 3, 1) := by decide +kernel
theorem d_2_32_10 : decode prog_2_method_32_code 10 = .ok (.iload_n 1, 1) := by decide +kernel
theorem d_2_32_11 : decode prog_2_method_32_code 11 = .ok (.ifCond .le 19, 3) := by decide +kernel
theorem d_2_32_30 : decode prog_2_method_32_code 30 = .ok (.return_, 1) := by decide +kernel
theorem d_2_32_14 : decode prog_2_method_32_code 14 = .ok (.aload_n 0, 1) := by decide +kernel
theorem d_2_32_15 : decode prog_2_method_32_code 15 = .ok (.getfield 13, 3) := by decide +kernel
theorem d_2_32_18 : decode prog_2_method_32_code 18 = .ok (.ifCond .eq 12, 3) := by decide +kernel
theorem d_2_32_21 : decode prog_2_method_32_code 21 = .ok (.iload_n 2, 1) := by decide +kernel
theorem d_2_32_22 : decode prog_2_method_32_code 22 = .ok (.aload_n 0, 1) := by decide +kernel
theorem d_2_32_23 : decode prog_2_method_32_code 23 = .ok (.getfield 7, 3) := by decide +kernel
theorem d_2_32_26 : decode prog_2_method_32_code 26 = .ok (.arraylength, 1) := by decide +kernel
theorem d_2_32_27 : decode prog_2_method_32_code 27 = .ok (.if_icmp .lt 4, 3) := by decide +kernel
theorem d_2_32_31 : decode prog_2_method_32_code 31 = .ok (.aload_n 0, 1) := by decide +kernel
theorem d_2_32_32 : decode prog_2_method_32_code 32 = .ok (.getfield 7, 3) := by decide +kernel
theorem d_2_32_35 : decode prog_2_method_32_code 35 = .ok (.arraylength, 1) := by decide +kernel
theorem d_2_32_36 : decode prog_2_method_32_code 36 = .ok (.aload_n 0, 1) := by decide +kernel
theorem d_2_32_37 : decode prog_2_method_32_code 37 = .ok (.getfield 13, 3) := by decide +kernel
theorem d_2_32_40 : decode prog_2_method_32_code 40 = .ok (.iload_n 2, 1) := by decide +kernel
theorem d_2_32_41 : decode prog_2_method_32_code 41 = .ok (.iadd, 1) := by decide +kernel
theorem d_2_32_42 : decode prog_2_method_32_code 42 = .ok (.iconst 1, 1) := by decide +kernel
theorem d_2_32_43 : decode prog_2_method_32_code 43 = .ok (.iadd, 1) := by decide +kernel
theorem d_2_32_44 : decode prog_2_method_32_code 44 = .ok (.invokestatic 39, 3) := by decide +kernel
theorem d_2_32_47 : decode prog_2_method_32_code 47 = .ok (.istore 4, 2) := by decide +kernel
theorem d_2_32_49 : decode prog_2_method_32_code 49 = .ok (.iload 4, 2) := by decide +kernel
theorem d_2_32_51 : decode prog_2_method_32_code 51 = .ok (.iconst 1, 1) := by decide +kernel
theorem d_2_32_52 : decode prog_2_method_32_code 52 = .ok (.isub, 1) := by decide +kernel
theorem d_2_32_53 : decode prog_2_method_32_code 53 = .ok (.istore 5, 2) := by decide +kernel
theorem d_2_32_55 : decode prog_2_method_32_code 55 = .ok (.iload 5, 2) := by decide +kernel
theorem d_2_32_57 : decode prog_2_method_32_code 57 = .ok (.iload_n 2, 1) := by decide +kernel
theorem d_2_32_58 : decode prog_2_method_32_code 58 = .ok (.if_icmp .lt 45, 3) := by decide +kernel
theorem d_2_32_103 : decode prog_2_method_32_code 103 = .ok (.aload_n 0, 1) := by decide +kernel
theorem d_2_32_104 : decode prog_2_method_32_code 104 = .ok (.getfield 7, 3) := by decide +kernel
theorem d_2_32_107 : decode prog_2_method_32_code 107 = .ok (.iconst 0, 1) := by decide +kernel
theorem d_2_32_108 : decode prog_2_method_32_code 108 = .ok (.iload_n 2, 1) := by decide +kernel
theorem d_2_32_109 : decode prog_2_method_32_code 109 = .ok (.iconst 0, 1) := by decide +kernel
theorem d_2_32_110 : decode prog_2_method_32_code 110 = .ok (.invokestatic 108, 3) := by decide +kernel
theorem d_2_32_113 : decode prog_2_method_32_code 113 = .ok (.aload_n 0, 1) := by decide +kernel
theorem d_2_32_114 : decode prog_2_method_32_code 114 = .ok (.iload 4, 2) := by decide +kernel
theorem d_2_32_116 : decode prog_2_method_32_code 116 = .ok (.putfield 13, 3) := by decide +kernel
theorem d_2_32_119 : decode prog_2_method_32_code 119 = .ok (.aload_n 0, 1) := by decide +kernel
theorem d_2_32_120 : decode prog_2_method_32_code 120 = .ok (.invokevirtual 36, 3) := by decide +kernel
theorem d_2_32_123 : decode prog_2_method_32_code 123 = .ok (.return_, 1) := by decide +kernel
theorem d_2_32_61 : decode prog_2_method_32_code 61 = .ok (.aload_n 0, 1) := by decide +kernel
theorem d_2_32_62 : decode prog_2_method_32_code 62 = .ok (.getfield 7, 3) := by decide +kernel
theorem d_2_32_65 : decode prog_2_method_32_code 65 = .ok (.iload 5, 2) := by decide +kernel
theorem d_2_32_67 : decode prog_2_method_32_code 67 = .ok (.aload_n 0, 1) := by decide +kernel
theorem d_2_32_68 : decode prog_2_method_32_code 68 = .ok (.iload 5, 2) := by decide +kernel
theorem d_2_32_70 : decode prog_2_method_32_code 70 = .ok (.iload_n 2, 1) := by decide +kernel
theorem d_2_32_71 : decode prog_2_method_32_code 71 = .ok (.isub, 1) := by decide +kernel
theorem d_2_32_72 : decode prog_2_method_32_code 72 = .ok (.invokevirtual 49, 3) := by decide +kernel
theorem d_2_32_75 : decode prog_2_method_32_code 75 = .ok (.iload_n 3, 1) := by decide +kernel
theorem d_2_32_76 : decode prog_2_method_32_code 76 = .ok (.ishl, 1) := by decide +kernel
theorem d_2_32_77 : decode prog_2_method_32_code 77 = .ok (.aload_n 0, 1) := by decide +kernel
theorem d_2_32_78 : decode prog_2_method_32_code 78 = .ok (.iload 5, 2) := by decide +kernel
theorem d_2_32_80 : decode prog_2_method_32_code 80 = .ok (.iload_n 2, 1) := by decide +kernel
theorem d_2_32_81 : decode prog_2_method_32_code 81 = .ok (.isub, 1) := by decide +kernel
theorem d_2_32_82 : decode prog_2_method_32_code 82 = .ok (.iconst 1, 1) := by decide +kernel
theorem d_2_32_83 : decode prog_2_method_32_code 83 = .ok (.isub, 1) := by decide +kernel
theorem d_2_32_84 : decode prog_2_method_32_code 84 = .ok (.invokevirtual 49, 3) := by decide +kernel
theorem d_2_32_87 : decode prog_2_method_32_code 87 = .ok (.bipush 31, 2) := by decide +kernel
theorem d_2_32_89 : decode prog_2_method_32_code 89 = .ok (.iload_n 3, 1) := by decide +kernel
theorem d_2_32_90 : decode prog_2_method_32_code 90 = .ok (.isub, 1) := by decide +kernel
theorem d_2_32_91 : decode prog_2_method_32_code 91 = .ok (.iushr, 1) := by decide +kernel
theorem d_2_32_92 : decode prog_2_method_32_code 92 = .ok (.ior, 1) := by decide +kernel
theorem d_2_32_93 : decode prog_2_method_32_code 93 = .ok (.ldc 71, 2) := by decide +kernel
theorem d_2_32_95 : decode prog_2_method_32_code 95 = .ok (.iand, 1) := by decide +kernel
theorem d_2_32_96 : decode prog_2_method_32_code 96 = .ok (.iastore, 1) := by decide +kernel
theorem d_2_32_97 : decode prog_2_method_32_code 97 = .ok (.iinc 5 (-1), 3) := by decide +kernel
theorem d_2_32_100 : decode prog_2_method_32_code 100 = .ok (.goto (-45), 3) := by decide +kernel
def y_Big_shiftLeft : MethodName := ⟨"NumberHouse$Big", "shiftLeft", "(I)V"⟩
theorem d_2_33_0 : decode prog_2_method_33_code 0 = .ok (.iload_n 1, 1) := by decide +kernel
theorem d_2_33_1 : decode prog_2_method_33_code 1 = .ok (.ifCond .le 10, 3) := by decide +kernel
theorem d_2_33_11 : decode prog_2_method_33_code 11 = .ok (.iconst 0, 1) := by decide +kernel
theorem d_2_33_12 : decode prog_2_method_33_code 12 = .ok (.ireturn, 1) := by decide +kernel
theorem d_2_33_4 : decode prog_2_method_33_code 4 = .ok (.aload_n 0, 1) := by decide +kernel
theorem d_2_33_5 : decode prog_2_method_33_code 5 = .ok (.getfield 13, 3) := by decide +kernel
theorem d_2_33_8 : decode prog_2_method_33_code 8 = .ok (.ifCond .ne 5, 3) := by decide +kernel
theorem d_2_33_13 : decode prog_2_method_33_code 13 = .ok (.aload_n 0, 1) := by decide +kernel
theorem d_2_33_14 : decode prog_2_method_33_code 14 = .ok (.invokevirtual 68, 3) := by decide +kernel
theorem d_2_33_17 : decode prog_2_method_33_code 17 = .ok (.iload_n 1, 1) := by decide +kernel
theorem d_2_33_26 : decode prog_2_method_33_code 26 = .ok (.istore_n 2, 1) := by decide +kernel
theorem d_2_33_27 : decode prog_2_method_33_code 27 = .ok (.iload_n 1, 1) := by decide +kernel
theorem d_2_33_28 : decode prog_2_method_33_code 28 = .ok (.bipush 31, 2) := by decide +kernel
theorem d_2_33_30 : decode prog_2_method_33_code 30 = .ok (.idiv, 1) := by decide +kernel
theorem d_2_33_31 : decode prog_2_method_33_code 31 = .ok (.istore_n 3, 1) := by decide +kernel
theorem d_2_33_32 : decode prog_2_method_33_code 32 = .ok (.iload_n 1, 1) := by decide +kernel
theorem d_2_33_33 : decode prog_2_method_33_code 33 = .ok (.bipush 31, 2) := by decide +kernel
theorem d_2_33_35 : decode prog_2_method_33_code 35 = .ok (.irem, 1) := by decide +kernel
theorem d_2_33_36 : decode prog_2_method_33_code 36 = .ok (.istore 4, 2) := by decide +kernel
theorem d_2_33_38 : decode prog_2_method_33_code 38 = .ok (.iconst 0, 1) := by decide +kernel
theorem d_2_33_39 : decode prog_2_method_33_code 39 = .ok (.aload_n 0, 1) := by decide +kernel
theorem d_2_33_40 : decode prog_2_method_33_code 40 = .ok (.getfield 13, 3) := by decide +kernel
theorem d_2_33_43 : decode prog_2_method_33_code 43 = .ok (.iload_n 3, 1) := by decide +kernel
theorem d_2_33_44 : decode prog_2_method_33_code 44 = .ok (.isub, 1) := by decide +kernel
theorem d_2_33_45 : decode prog_2_method_33_code 45 = .ok (.invokestatic 92, 3) := by decide +kernel
theorem d_2_33_48 : decode prog_2_method_33_code 48 = .ok (.istore 5, 2) := by decide +kernel
theorem d_2_33_50 : decode prog_2_method_33_code 50 = .ok (.iconst 0, 1) := by decide +kernel
theorem d_2_33_51 : decode prog_2_method_33_code 51 = .ok (.istore 6, 2) := by decide +kernel
theorem d_2_33_53 : decode prog_2_method_33_code 53 = .ok (.iload 6, 2) := by decide +kernel
theorem d_2_33_55 : decode prog_2_method_33_code 55 = .ok (.iload 5, 2) := by decide +kernel
theorem d_2_33_57 : decode prog_2_method_33_code 57 = .ok (.if_icmp .ge 47, 3) := by decide +kernel
theorem d_2_33_104 : decode prog_2_method_33_code 104 = .ok (.aload_n 0, 1) := by decide +kernel
theorem d_2_33_105 : decode prog_2_method_33_code 105 = .ok (.iload 5, 2) := by decide +kernel
theorem d_2_33_107 : decode prog_2_method_33_code 107 = .ok (.putfield 13, 3) := by decide +kernel
theorem d_2_33_110 : decode prog_2_method_33_code 110 = .ok (.aload_n 0, 1) := by decide +kernel
theorem d_2_33_111 : decode prog_2_method_33_code 111 = .ok (.invokevirtual 36, 3) := by decide +kernel
theorem d_2_33_114 : decode prog_2_method_33_code 114 = .ok (.iload_n 2, 1) := by decide +kernel
theorem d_2_33_115 : decode prog_2_method_33_code 115 = .ok (.ireturn, 1) := by decide +kernel
theorem d_2_33_60 : decode prog_2_method_33_code 60 = .ok (.aload_n 0, 1) := by decide +kernel
theorem d_2_33_61 : decode prog_2_method_33_code 61 = .ok (.getfield 7, 3) := by decide +kernel
theorem d_2_33_64 : decode prog_2_method_33_code 64 = .ok (.iload 6, 2) := by decide +kernel
theorem d_2_33_66 : decode prog_2_method_33_code 66 = .ok (.aload_n 0, 1) := by decide +kernel
theorem d_2_33_67 : decode prog_2_method_33_code 67 = .ok (.iload 6, 2) := by decide +kernel
theorem d_2_33_69 : decode prog_2_method_33_code 69 = .ok (.iload_n 3, 1) := by decide +kernel
theorem d_2_33_70 : decode prog_2_method_33_code 70 = .ok (.iadd, 1) := by decide +kernel
theorem d_2_33_71 : decode prog_2_method_33_code 71 = .ok (.invokevirtual 49, 3) := by decide +kernel
theorem d_2_33_74 : decode prog_2_method_33_code 74 = .ok (.iload 4, 2) := by decide +kernel
theorem d_2_33_76 : decode prog_2_method_33_code 76 = .ok (.iushr, 1) := by decide +kernel
theorem d_2_33_77 : decode prog_2_method_33_code 77 = .ok (.aload_n 0, 1) := by decide +kernel
theorem d_2_33_78 : decode prog_2_method_33_code 78 = .ok (.iload 6, 2) := by decide +kernel
theorem d_2_33_80 : decode prog_2_method_33_code 80 = .ok (.iload_n 3, 1) := by decide +kernel
theorem d_2_33_81 : decode prog_2_method_33_code 81 = .ok (.iadd, 1) := by decide +kernel
theorem d_2_33_82 : decode prog_2_method_33_code 82 = .ok (.iconst 1, 1) := by decide +kernel
theorem d_2_33_83 : decode prog_2_method_33_code 83 = .ok (.iadd, 1) := by decide +kernel
theorem d_2_33_84 : decode prog_2_method_33_code 84 = .ok (.invokevirtual 49, 3) := by decide +kernel
theorem d_2_33_87 : decode prog_2_method_33_code 87 = .ok (.bipush 31, 2) := by decide +kernel
theorem d_2_33_89 : decode prog_2_method_33_code 89 = .ok (.iload 4, 2) := by decide +kernel
theorem d_2_33_91 : decode prog_2_method_33_code 91 = .ok (.isub, 1) := by decide +kernel
theorem d_2_33_92 : decode prog_2_method_33_code 92 = .ok (.ishl, 1) := by decide +kernel
theorem d_2_33_93 : decode prog_2_method_33_code 93 = .ok (.ior, 1) := by decide +kernel
theorem d_2_33_94 : decode prog_2_method_33_code 94 = .ok (.ldc 71, 2) := by decide +kernel
theorem d_2_33_96 : decode prog_2_method_33_code 96 = .ok (.iand, 1) := by decide +kernel
theorem d_2_33_97 : decode prog_2_method_33_code 97 = .ok (.iastore, 1) := by decide +kernel
theorem d_2_33_98 : decode prog_2_method_33_code 98 = .ok (.iinc 6 1, 3) := by decide +kernel
theorem d_2_33_101 : decode prog_2_method_33_code 101 = .ok (.goto (-48), 3) := by decide +kernel
theorem d_2_33_18 : decode prog_2_method_33_code 18 = .ok (.if_icmp .ge 7, 3) := by decide +kernel
theorem d_2_33_25 : decode prog_2_method_33_code 25 = .ok (.iconst 0, 1) := by decide +kernel
theorem d_2_33_21 : decode prog_2_method_33_code 21 = .ok (.iconst 1, 1) := by decide +kernel
theorem d_2_33_22 : decode prog_2_method_33_code 22 = .ok (.goto 4, 3) := by decide +kernel
def y_Big_shiftRight : MethodName := ⟨"NumberHouse$Big", "shiftRight", "(I)Z"⟩
theorem d_2_10_34 : decode prog_2_method_10_code 34 = .ok (.lload_n 1, 1) := by decide +kernel
theorem d_2_10_35 : decode prog_2_method_10_code 35 = .ok (.lneg, 1) := by decide +kernel
theorem d_2_10_36 : decode prog_2_method_10_code 36 = .ok (.goto 4, 3) := by decide +kernel
theorem d_2_16_37 : decode prog_2_method_16_code 37 = .ok (.iload_n 1, 1) := by decide +kernel
theorem d_2_16_38 : decode prog_2_method_16_code 38 = .ok (.iconst 1, 1) := by decide +kernel
theorem d_2_16_39 : decode prog_2_method_16_code 39 = .ok (.isub, 1) := by decide +kernel
theorem d_2_16_40 : decode prog_2_method_16_code 40 = .ok (.aload_n 0, 1) := by decide +kernel
theorem d_2_16_41 : decode prog_2_method_16_code 41 = .ok (.invokevirtual 68, 3) := by decide +kernel
theorem d_2_16_44 : decode prog_2_method_16_code 44 = .ok (.iadd, 1) := by decide +kernel
theorem d_2_16_45 : decode prog_2_method_16_code 45 = .ok (.goto 4, 3) := by decide +kernel
theorem d_2_16_12 : decode prog_2_method_16_code 12 = .ok (.iload_n 1, 1) := by decide +kernel
theorem d_2_16_13 : decode prog_2_method_16_code 13 = .ok (.aload_n 0, 1) := by decide +kernel
theorem d_2_16_14 : decode prog_2_method_16_code 14 = .ok (.getfield 7, 3) := by decide +kernel
theorem d_2_16_17 : decode prog_2_method_16_code 17 = .ok (.iload_n 2, 1) := by decide +kernel
theorem d_2_16_18 : decode prog_2_method_16_code 18 = .ok (.iaload, 1) := by decide +kernel
theorem d_2_16_19 : decode prog_2_method_16_code 19 = .ok (.invokestatic 60, 3) := by decide +kernel
theorem d_2_16_22 : decode prog_2_method_16_code 22 = .ok (.iadd, 1) := by decide +kernel
theorem d_2_16_23 : decode prog_2_method_16_code 23 = .ok (.istore_n 1, 1) := by decide +kernel
theorem d_2_16_24 : decode prog_2_method_16_code 24 = .ok (.iinc 2 1, 3) := by decide +kernel
theorem d_2_16_27 : decode prog_2_method_16_code 27 = .ok (.goto (-23), 3) := by decide +kernel
theorem d_2_19_0 : decode prog_2_method_19_code 0 = .ok (.aload_n 0, 1) := by decide +kernel
theorem d_2_19_1 : decode prog_2_method_19_code 1 = .ok (.getfield 17, 3) := by decide +kernel
theorem d_2_19_4 : decode prog_2_method_19_code 4 = .ok (.ifCond .ne 9, 3) := by decide +kernel
theorem d_2_19_13 : decode prog_2_method_19_code 13 = .ok (.iload_n 1, 1) := by decide +kernel
theorem d_2_19_14 : decode prog_2_method_19_code 14 = .ok (.iload_n 2, 1) := by decide +kernel
theorem d_2_19_15 : decode prog_2_method_19_code 15 = .ok (.if_icmp .ge 5, 3) := by decide +kernel
theorem d_2_19_20 : decode prog_2_method_19_code 20 = .ok (.iload_n 1, 1) := by decide +kernel
theorem d_2_19_21 : decode prog_2_method_19_code 21 = .ok (.iload_n 2, 1) := by decide +kernel
theorem d_2_19_22 : decode prog_2_method_19_code 22 = .ok (.if_icmp .ne 12, 3) := by decide +kernel
theorem d_2_19_34 : decode prog_2_method_19_code 34 = .ok (.aload_n 0, 1) := by decide +kernel
theorem d_2_19_35 : decode prog_2_method_19_code 35 = .ok (.iload_n 1, 1) := by decide +kernel
theorem d_2_19_36 : decode prog_2_method_19_code 36 = .ok (.invokevirtual 49, 3) := by decide +kernel
theorem d_2_19_39 : decode prog_2_method_19_code 39 = .ok (.iconst (-1), 1) := by decide +kernel
theorem d_2_19_40 : decode prog_2_method_19_code 40 = .ok (.ixor, 1) := by decide +kernel
theorem d_2_19_41 : decode prog_2_method_19_code 41 = .ok (.ldc 71, 2) := by decide +kernel
theorem d_2_19_43 : decode prog_2_method_19_code 43 = .ok (.iand, 1) := by decide +kernel
theorem d_2_19_44 : decode prog_2_method_19_code 44 = .ok (.ireturn, 1) := by decide +kernel
theorem d_2_19_25 : decode prog_2_method_19_code 25 = .ok (.aload_n 0, 1) := by decide +kernel
theorem d_2_19_26 : decode prog_2_method_19_code 26 = .ok (.iload_n 1, 1) := by decide +kernel
theorem d_2_19_27 : decode prog_2_method_19_code 27 = .ok (.invokevirtual 49, 3) := by decide +kernel
theorem d_2_19_30 : decode prog_2_method_19_code 30 = .ok (.ineg, 1) := by decide +kernel
theorem d_2_19_31 : decode prog_2_method_19_code 31 = .ok (.goto 10, 3) := by decide +kernel
theorem d_2_19_18 : decode prog_2_method_19_code 18 = .ok (.iconst 0, 1) := by decide +kernel
theorem d_2_19_19 : decode prog_2_method_19_code 19 = .ok (.ireturn, 1) := by decide +kernel
theorem d_2_19_7 : decode prog_2_method_19_code 7 = .ok (.aload_n 0, 1) := by decide +kernel
theorem d_2_19_8 : decode prog_2_method_19_code 8 = .ok (.iload_n 1, 1) := by decide +kernel
theorem d_2_19_9 : decode prog_2_method_19_code 9 = .ok (.invokevirtual 49, 3) := by decide +kernel
theorem d_2_19_12 : decode prog_2_method_19_code 12 = .ok (.ireturn, 1) := by decide +kernel
def y_Big_endlessLimb : MethodName := ⟨"NumberHouse$Big", "endlessLimb", "(II)I"⟩
theorem d_2_37_0 : decode prog_2_method_37_code 0 = .ok (.aload_n 2, 1) := by decide +kernel
theorem d_2_37_1 : decode prog_2_method_37_code 1 = .ok (.aload_n 2, 1) := by decide +kernel
theorem d_2_37_2 : decode prog_2_method_37_code 2 = .ok (.getfield 13, 3) := by decide +kernel
theorem d_2_37_5 : decode prog_2_method_37_code 5 = .ok (.iconst 1, 1) := by decide +kernel
theorem d_2_37_6 : decode prog_2_method_37_code 6 = .ok (.isub, 1) := by decide +kernel
theorem d_2_37_7 : decode prog_2_method_37_code 7 = .ok (.invokevirtual 49, 3) := by decide +kernel
theorem d_2_37_10 : decode prog_2_method_37_code 10 = .ok (.i2l, 1) := by decide +kernel
theorem d_2_37_11 : decode prog_2_method_37_code 11 = .ok (.lstore_n 3, 1) := by decide +kernel
theorem d_2_37_12 : decode prog_2_method_37_code 12 = .ok (.aload_n 2, 1) := by decide +kernel
theorem d_2_37_13 : decode prog_2_method_37_code 13 = .ok (.aload_n 2, 1) := by decide +kernel
theorem d_2_37_14 : decode prog_2_method_37_code 14 = .ok (.getfield 13, 3) := by decide +kernel
theorem d_2_37_17 : decode prog_2_method_37_code 17 = .ok (.iconst 2, 1) := by decide +kernel
theorem d_2_37_18 : decode prog_2_method_37_code 18 = .ok (.isub, 1) := by decide +kernel
theorem d_2_37_19 : decode prog_2_method_37_code 19 = .ok (.invokevirtual 49, 3) := by decide +kernel
theorem d_2_37_22 : decode prog_2_method_37_code 22 = .ok (.i2l, 1) := by decide +kernel
theorem d_2_37_23 : decode prog_2_method_37_code 23 = .ok (.lstore 5, 2) := by decide +kernel
theorem d_2_37_25 : decode prog_2_method_37_code 25 = .ok (.aload_n 0, 1) := by decide +kernel
theorem d_2_37_26 : decode prog_2_method_37_code 26 = .ok (.iload_n 1, 1) := by decide +kernel
theorem d_2_37_27 : decode prog_2_method_37_code 27 = .ok (.invokevirtual 49, 3) := by decide +kernel
theorem d_2_37_30 : decode prog_2_method_37_code 30 = .ok (.i2l, 1) := by decide +kernel
theorem d_2_37_31 : decode prog_2_method_37_code 31 = .ok (.bipush 31, 2) := by decide +kernel
theorem d_2_37_33 : decode prog_2_method_37_code 33 = .ok (.lshl, 1) := by decide +kernel
theorem d_2_37_34 : decode prog_2_method_37_code 34 = .ok (.aload_n 0, 1) := by decide +kernel
theorem d_2_37_35 : decode prog_2_method_37_code 35 = .ok (.iload_n 1, 1) := by decide +kernel
theorem d_2_37_36 : decode prog_2_method_37_code 36 = .ok (.iconst 1, 1) := by decide +kernel
theorem d_2_37_37 : decode prog_2_method_37_code 37 = .ok (.isub, 1) := by decide +kernel
theorem d_2_37_38 : decode prog_2_method_37_code 38 = .ok (.invokevirtual 49, 3) := by decide +kernel
theorem d_2_37_41 : decode prog_2_method_37_code 41 = .ok (.i2l, 1) := by decide +kernel
theorem d_2_37_42 : decode prog_2_method_37_code 42 = .ok (.lor, 1) := by decide +kernel
theorem d_2_37_43 : decode prog_2_method_37_code 43 = .ok (.lstore 7, 2) := by decide +kernel
theorem d_2_37_45 : decode prog_2_method_37_code 45 = .ok (.lload 7, 2) := by decide +kernel
theorem d_2_37_47 : decode prog_2_method_37_code 47 = .ok (.lload_n 3, 1) := by decide +kernel
theorem d_2_37_48 : decode prog_2_method_37_code 48 = .ok (.lconst 1, 1) := by decide +kernel
theorem d_2_37_49 : decode prog_2_method_37_code 49 = .ok (.invokestatic 143, 3) := by decide +kernel
set_option maxRecDepth 100000 in
theorem w_742 : (Cond.code ({ cls := "java/lang/Math", name := "max", desc := "(JJ)J" } : MethodName) prog_29_method_66_code (4 : Nat) (some .long)) ∈ q_tbl := q_of4 22 rfl (by decide +kernel)
set_option maxRecDepth 100000 in
theorem w_1054 : (Cond.methodLink "NumberHouse$Big" (143 : Nat) ({ cls := "java/lang/Math", name := "max", desc := "(JJ)J" } : MethodName)) ∈ q_tbl := q_of5 94 rfl (by decide +kernel)
set_option maxRecDepth 100000 in
theorem w_741 : (Cond.static ({ cls := "java/lang/Math", name := "max", desc := "(JJ)J" } : MethodName)) ∈ q_tbl := q_of4 21 rfl (by decide +kernel)
theorem LS_Big_143 : q_LS "NumberHouse$Big" 143 y_jMath_max_JJJ prog_29_method_66_code 4 (some .long) 2 := ⟨w_742, w_7, w_1054, w_741, ⟨by decide, by decide, by decide +kernel⟩⟩
theorem d_2_37_52 : decode prog_2_method_37_code 52 = .ok (.ldiv, 1) := by decide +kernel
theorem d_2_37_53 : decode prog_2_method_37_code 53 = .ok (.lstore 9, 2) := by decide +kernel
theorem d_2_37_55 : decode prog_2_method_37_code 55 = .ok (.lload 7, 2) := by decide +kernel
theorem d_2_37_57 : decode prog_2_method_37_code 57 = .ok (.lload 9, 2) := by decide +kernel
theorem d_2_37_59 : decode prog_2_method_37_code 59 = .ok (.lload_n 3, 1) := by decide +kernel
theorem d_2_37_60 : decode prog_2_method_37_code 60 = .ok (.lmul, 1) := by decide +kernel
theorem d_2_37_61 : decode prog_2_method_37_code 61 = .ok (.lsub, 1) := by decide +kernel
theorem d_2_37_62 : decode prog_2_method_37_code 62 = .ok (.lstore 11, 2) := by decide +kernel
theorem d_2_37_64 : decode prog_2_method_37_code 64 = .ok (.iconst 0, 1) := by decide +kernel
theorem d_2_37_65 : decode prog_2_method_37_code 65 = .ok (.istore 13, 2) := by decide +kernel
theorem d_2_37_67 : decode prog_2_method_37_code 67 = .ok (.iload 13, 2) := by decide +kernel
theorem d_2_37_69 : decode prog_2_method_37_code 69 = .ok (.iconst 2, 1) := by decide +kernel
theorem d_2_37_70 : decode prog_2_method_37_code 70 = .ok (.if_icmp .ge 65, 3) := by decide +kernel
theorem d_2_37_135 : decode prog_2_method_37_code 135 = .ok (.lload 9, 2) := by decide +kernel
theorem d_2_37_137 : decode prog_2_method_37_code 137 = .ok (.lreturn, 1) := by decide +kernel
theorem d_2_37_73 : decode prog_2_method_37_code 73 = .ok (.lload 11, 2) := by decide +kernel
theorem d_2_37_75 : decode prog_2_method_37_code 75 = .ok (.ldc2_w 30, 3) := by decide +kernel
theorem d_2_37_78 : decode prog_2_method_37_code 78 = .ok (.lcmp, 1) := by decide +kernel
theorem d_2_37_79 : decode prog_2_method_37_code 79 = .ok (.ifCond .gt 56, 3) := by decide +kernel
theorem d_2_37_82 : decode prog_2_method_37_code 82 = .ok (.lload 9, 2) := by decide +kernel
theorem d_2_37_84 : decode prog_2_method_37_code 84 = .ok (.ldc2_w 30, 3) := by decide +kernel
theorem d_2_37_87 : decode prog_2_method_37_code 87 = .ok (.lcmp, 1) := by decide +kernel
theorem d_2_37_88 : decode prog_2_method_37_code 88 = .ok (.ifCond .gt 29, 3) := by decide +kernel
theorem d_2_37_117 : decode prog_2_method_37_code 117 = .ok (.lload 9, 2) := by decide +kernel
theorem d_2_37_119 : decode prog_2_method_37_code 119 = .ok (.lconst 1, 1) := by decide +kernel
theorem d_2_37_120 : decode prog_2_method_37_code 120 = .ok (.lsub, 1) := by decide +kernel
theorem d_2_37_121 : decode prog_2_method_37_code 121 = .ok (.lstore 9, 2) := by decide +kernel
theorem d_2_37_123 : decode prog_2_method_37_code 123 = .ok (.lload 11, 2) := by decide +kernel
theorem d_2_37_125 : decode prog_2_method_37_code 125 = .ok (.lload_n 3, 1) := by decide +kernel
theorem d_2_37_126 : decode prog_2_method_37_code 126 = .ok (.ladd, 1) := by decide +kernel
theorem d_2_37_127 : decode prog_2_method_37_code 127 = .ok (.lstore 11, 2) := by decide +kernel
theorem d_2_37_129 : decode prog_2_method_37_code 129 = .ok (.iinc 13 1, 3) := by decide +kernel
theorem d_2_37_132 : decode prog_2_method_37_code 132 = .ok (.goto (-65), 3) := by decide +kernel
theorem d_2_37_91 : decode prog_2_method_37_code 91 = .ok (.lload 9, 2) := by decide +kernel
theorem d_2_37_93 : decode prog_2_method_37_code 93 = .ok (.lload 5, 2) := by decide +kernel
theorem d_2_37_95 : decode prog_2_method_37_code 95 = .ok (.lmul, 1) := by decide +kernel
theorem d_2_37_96 : decode prog_2_method_37_code 96 = .ok (.lload 11, 2) := by decide +kernel
theorem d_2_37_98 : decode prog_2_method_37_code 98 = .ok (.bipush 31, 2) := by decide +kernel
theorem d_2_37_100 : decode prog_2_method_37_code 100 = .ok (.lshl, 1) := by decide +kernel
theorem d_2_37_101 : decode prog_2_method_37_code 101 = .ok (.aload_n 0, 1) := by decide +kernel
theorem d_2_37_102 : decode prog_2_method_37_code 102 = .ok (.iload_n 1, 1) := by decide +kernel
theorem d_2_37_103 : decode prog_2_method_37_code 103 = .ok (.iconst 2, 1) := by decide +kernel
theorem d_2_37_104 : decode prog_2_method_37_code 104 = .ok (.isub, 1) := by decide +kernel
theorem d_2_37_105 : decode prog_2_method_37_code 105 = .ok (.invokevirtual 49, 3) := by decide +kernel
theorem d_2_37_108 : decode prog_2_method_37_code 108 = .ok (.i2l, 1) := by decide +kernel
theorem d_2_37_109 : decode prog_2_method_37_code 109 = .ok (.lor, 1) := by decide +kernel
theorem d_2_37_110 : decode prog_2_method_37_code 110 = .ok (.lcmp, 1) := by decide +kernel
theorem d_2_37_111 : decode prog_2_method_37_code 111 = .ok (.ifCond .gt 6, 3) := by decide +kernel
theorem d_2_37_114 : decode prog_2_method_37_code 114 = .ok (.goto 21, 3) := by decide +kernel
def y_Big_guess : MethodName := ⟨"NumberHouse$Big", "guess", "(ILNumberHouse$Big;)J"⟩
theorem d_2_38_0 : decode prog_2_method_38_code 0 = .ok (.aload_n 2, 1) := by decide +kernel
theorem d_2_38_1 : decode prog_2_method_38_code 1 = .ok (.getfield 13, 3) := by decide +kernel
theorem d_2_38_4 : decode prog_2_method_38_code 4 = .ok (.istore_n 3, 1) := by decide +kernel
theorem d_2_38_5 : decode prog_2_method_38_code 5 = .ok (.iconst 0, 1) := by decide +kernel
theorem d_2_38_6 : decode prog_2_method_38_code 6 = .ok (.istore 4, 2) := by decide +kernel
theorem d_2_38_8 : decode prog_2_method_38_code 8 = .ok (.iconst 0, 1) := by decide +kernel
theorem d_2_38_9 : decode prog_2_method_38_code 9 = .ok (.istore 5, 2) := by decide +kernel
theorem d_2_38_11 : decode prog_2_method_38_code 11 = .ok (.iload 5, 2) := by decide +kernel
theorem d_2_38_13 : decode prog_2_method_38_code 13 = .ok (.iload_n 3, 1) := by decide +kernel
theorem d_2_38_14 : decode prog_2_method_38_code 14 = .ok (.if_icmp .ge 51, 3) := by decide +kernel
theorem d_2_38_65 : decode prog_2_method_38_code 65 = .ok (.iload_n 1, 1) := by decide +kernel
theorem d_2_38_66 : decode prog_2_method_38_code 66 = .ok (.iload_n 3, 1) := by decide +kernel
theorem d_2_38_67 : decode prog_2_method_38_code 67 = .ok (.iadd, 1) := by decide +kernel
theorem d_2_38_68 : decode prog_2_method_38_code 68 = .ok (.aload_n 0, 1) := by decide +kernel
theorem d_2_38_69 : decode prog_2_method_38_code 69 = .ok (.getfield 7, 3) := by decide +kernel
theorem d_2_38_72 : decode prog_2_method_38_code 72 = .ok (.arraylength, 1) := by decide +kernel
theorem d_2_38_73 : decode prog_2_method_38_code 73 = .ok (.if_icmp .ge 24, 3) := by decide +kernel
theorem d_2_38_97 : decode prog_2_method_38_code 97 = .ok (.return_, 1) := by decide +kernel
theorem d_2_38_76 : decode prog_2_method_38_code 76 = .ok (.aload_n 0, 1) := by decide +kernel
theorem d_2_38_77 : decode prog_2_method_38_code 77 = .ok (.getfield 7, 3) := by decide +kernel
theorem d_2_38_80 : decode prog_2_method_38_code 80 = .ok (.iload_n 1, 1) := by decide +kernel
theorem d_2_38_81 : decode prog_2_method_38_code 81 = .ok (.iload_n 3, 1) := by decide +kernel
theorem d_2_38_82 : decode prog_2_method_38_code 82 = .ok (.iadd, 1) := by decide +kernel
theorem d_2_38_83 : decode prog_2_method_38_code 83 = .ok (.aload_n 0, 1) := by decide +kernel
theorem d_2_38_84 : decode prog_2_method_38_code 84 = .ok (.iload_n 1, 1) := by decide +kernel
theorem d_2_38_85 : decode prog_2_method_38_code 85 = .ok (.iload_n 3, 1) := by decide +kernel
theorem d_2_38_86 : decode prog_2_method_38_code 86 = .ok (.iadd, 1) := by decide +kernel
theorem d_2_38_87 : decode prog_2_method_38_code 87 = .ok (.invokevirtual 49, 3) := by decide +kernel
theorem d_2_38_90 : decode prog_2_method_38_code 90 = .ok (.iload 4, 2) := by decide +kernel
theorem d_2_38_92 : decode prog_2_method_38_code 92 = .ok (.iadd, 1) := by decide +kernel
theorem d_2_38_93 : decode prog_2_method_38_code 93 = .ok (.ldc 71, 2) := by decide +kernel
theorem d_2_38_95 : decode prog_2_method_38_code 95 = .ok (.iand, 1) := by decide +kernel
theorem d_2_38_96 : decode prog_2_method_38_code 96 = .ok (.iastore, 1) := by decide +kernel
theorem d_2_38_17 : decode prog_2_method_38_code 17 = .ok (.aload_n 0, 1) := by decide +kernel
theorem d_2_38_18 : decode prog_2_method_38_code 18 = .ok (.iload_n 1, 1) := by decide +kernel
theorem d_2_38_19 : decode prog_2_method_38_code 19 = .ok (.iload 5, 2) := by decide +kernel
theorem d_2_38_21 : decode prog_2_method_38_code 21 = .ok (.iadd, 1) := by decide +kernel
theorem d_2_38_22 : decode prog_2_method_38_code 22 = .ok (.invokevirtual 49, 3) := by decide +kernel
theorem d_2_38_25 : decode prog_2_method_38_code 25 = .ok (.aload_n 2, 1) := by decide +kernel
theorem d_2_38_26 : decode prog_2_method_38_code 26 = .ok (.getfield 7, 3) := by decide +kernel
theorem d_2_38_29 : decode prog_2_method_38_code 29 = .ok (.iload 5, 2) := by decide +kernel
theorem d_2_38_31 : decode prog_2_method_38_code 31 = .ok (.iaload, 1) := by decide +kernel
theorem d_2_38_32 : decode prog_2_method_38_code 32 = .ok (.iadd, 1) := by decide +kernel
theorem d_2_38_33 : decode prog_2_method_38_code 33 = .ok (.iload 4, 2) := by decide +kernel
theorem d_2_38_35 : decode prog_2_method_38_code 35 = .ok (.iadd, 1) := by decide +kernel
theorem d_2_38_36 : decode prog_2_method_38_code 36 = .ok (.istore 6, 2) := by decide +kernel
theorem d_2_38_38 : decode prog_2_method_38_code 38 = .ok (.aload_n 0, 1) := by decide +kernel
theorem d_2_38_39 : decode prog_2_method_38_code 39 = .ok (.getfield 7, 3) := by decide +kernel
theorem d_2_38_42 : decode prog_2_method_38_code 42 = .ok (.iload_n 1, 1) := by decide +kernel
theorem d_2_38_43 : decode prog_2_method_38_code 43 = .ok (.iload 5, 2) := by decide +kernel
theorem d_2_38_45 : decode prog_2_method_38_code 45 = .ok (.iadd, 1) := by decide +kernel
theorem d_2_38_46 : decode prog_2_method_38_code 46 = .ok (.iload 6, 2) := by decide +kernel
theorem d_2_38_48 : decode prog_2_method_38_code 48 = .ok (.ldc 71, 2) := by decide +kernel
theorem d_2_38_50 : decode prog_2_method_38_code 50 = .ok (.iand, 1) := by decide +kernel
theorem d_2_38_51 : decode prog_2_method_38_code 51 = .ok (.iastore, 1) := by decide +kernel
theorem d_2_38_52 : decode prog_2_method_38_code 52 = .ok (.iload 6, 2) := by decide +kernel
theorem d_2_38_54 : decode prog_2_method_38_code 54 = .ok (.bipush 31, 2) := by decide +kernel
theorem d_2_38_56 : decode prog_2_method_38_code 56 = .ok (.iushr, 1) := by decide +kernel
theorem d_2_38_57 : decode prog_2_method_38_code 57 = .ok (.istore 4, 2) := by decide +kernel
theorem d_2_38_59 : decode prog_2_method_38_code 59 = .ok (.iinc 5 1, 3) := by decide +kernel
theorem d_2_38_62 : decode prog_2_method_38_code 62 = .ok (.goto (-51), 3) := by decide +kernel
def y_Big_giveBack : MethodName := ⟨"NumberHouse$Big", "giveBack", "(ILNumberHouse$Big;)V"⟩
theorem d_2_36_0 : decode prog_2_method_36_code 0 = .ok (.aload_n 2, 1) := by decide +kernel
theorem d_2_36_1 : decode prog_2_method_36_code 1 = .ok (.getfield 13, 3) := by decide +kernel
theorem d_2_36_4 : decode prog_2_method_36_code 4 = .ok (.istore_n 3, 1) := by decide +kernel
theorem d_2_36_5 : decode prog_2_method_36_code 5 = .ok (.aload_n 0, 1) := by decide +kernel
theorem d_2_36_6 : decode prog_2_method_36_code 6 = .ok (.iload_n 1, 1) := by decide +kernel
theorem d_2_36_7 : decode prog_2_method_36_code 7 = .ok (.iload_n 3, 1) := by decide +kernel
theorem d_2_36_8 : decode prog_2_method_36_code 8 = .ok (.iadd, 1) := by decide +kernel
theorem d_2_36_9 : decode prog_2_method_36_code 9 = .ok (.aload_n 2, 1) := by decide +kernel
theorem d_2_36_10 : decode prog_2_method_36_code 10 = .ok (.invokevirtual 136, 3) := by decide +kernel
set_option maxRecDepth 100000 in
theorem w_1053 : (Cond.code ({ cls := "NumberHouse$Big", name := "guess", desc := "(ILNumberHouse$Big;)J" } : MethodName) prog_2_method_37_code (14 : Nat) (some .long)) ∈ q_tbl := q_of5 93 rfl (by decide +kernel)
set_option maxRecDepth 100000 in
theorem w_1050 : (Cond.methodLink "NumberHouse$Big" (136 : Nat) ({ cls := "NumberHouse$Big", name := "guess", desc := "(ILNumberHouse$Big;)J" } : MethodName)) ∈ q_tbl := q_of5 90 rfl (by decide +kernel)
set_option maxRecDepth 100000 in
theorem w_1052 : (Cond.instanceMethod ({ cls := "NumberHouse$Big", name := "guess", desc := "(ILNumberHouse$Big;)J" } : MethodName)) ∈ q_tbl := q_of5 92 rfl (by decide +kernel)
theorem ws_17 : Cond.selects "NumberHouse$Big" (⟨"NumberHouse$Big", "guess", "(ILNumberHouse$Big;)J"⟩ : MethodName) (⟨"NumberHouse$Big", "guess", "(ILNumberHouse$Big;)J"⟩ : MethodName) ∈ q_tbl := q_ofs 17 (by decide +kernel) (by decide +kernel)
theorem LV_Big_136 : q_LV "NumberHouse$Big" 136 y_Big_guess prog_2_method_37_code 14 (some .long) 2 := ⟨w_1053, w_4, w_1050, w_1052, ws_17, ⟨by decide, by decide, by decide +kernel⟩⟩
theorem d_2_36_13 : decode prog_2_method_36_code 13 = .ok (.lstore 4, 2) := by decide +kernel
theorem d_2_36_15 : decode prog_2_method_36_code 15 = .ok (.lconst 0, 1) := by decide +kernel
theorem d_2_36_16 : decode prog_2_method_36_code 16 = .ok (.lstore 6, 2) := by decide +kernel
theorem d_2_36_18 : decode prog_2_method_36_code 18 = .ok (.iconst 0, 1) := by decide +kernel
theorem d_2_36_19 : decode prog_2_method_36_code 19 = .ok (.istore 8, 2) := by decide +kernel
theorem d_2_36_21 : decode prog_2_method_36_code 21 = .ok (.iload 8, 2) := by decide +kernel
theorem d_2_36_23 : decode prog_2_method_36_code 23 = .ok (.iload_n 3, 1) := by decide +kernel
theorem d_2_36_24 : decode prog_2_method_36_code 24 = .ok (.if_icmp .ge 80, 3) := by decide +kernel
theorem d_2_36_104 : decode prog_2_method_36_code 104 = .ok (.aload_n 0, 1) := by decide +kernel
theorem d_2_36_105 : decode prog_2_method_36_code 105 = .ok (.iload_n 1, 1) := by decide +kernel
theorem d_2_36_106 : decode prog_2_method_36_code 106 = .ok (.iload_n 3, 1) := by decide +kernel
theorem d_2_36_107 : decode prog_2_method_36_code 107 = .ok (.iadd, 1) := by decide +kernel
theorem d_2_36_108 : decode prog_2_method_36_code 108 = .ok (.invokevirtual 49, 3) := by decide +kernel
theorem d_2_36_111 : decode prog_2_method_36_code 111 = .ok (.i2l, 1) := by decide +kernel
theorem d_2_36_112 : decode prog_2_method_36_code 112 = .ok (.lload 6, 2) := by decide +kernel
theorem d_2_36_114 : decode prog_2_method_36_code 114 = .ok (.lsub, 1) := by decide +kernel
theorem d_2_36_115 : decode prog_2_method_36_code 115 = .ok (.lstore 8, 2) := by decide +kernel
theorem d_2_36_117 : decode prog_2_method_36_code 117 = .ok (.iload_n 1, 1) := by decide +kernel
theorem d_2_36_118 : decode prog_2_method_36_code 118 = .ok (.iload_n 3, 1) := by decide +kernel
theorem d_2_36_119 : decode prog_2_method_36_code 119 = .ok (.iadd, 1) := by decide +kernel
theorem d_2_36_120 : decode prog_2_method_36_code 120 = .ok (.aload_n 0, 1) := by decide +kernel
theorem d_2_36_121 : decode prog_2_method_36_code 121 = .ok (.getfield 7, 3) := by decide +kernel
theorem d_2_36_124 : decode prog_2_method_36_code 124 = .ok (.arraylength, 1) := by decide +kernel
theorem d_2_36_143 : decode prog_2_method_36_code 143 = .ok (.lload 8, 2) := by decide +kernel
theorem d_2_36_145 : decode prog_2_method_36_code 145 = .ok (.lconst 0, 1) := by decide +kernel
theorem d_2_36_146 : decode prog_2_method_36_code 146 = .ok (.lcmp, 1) := by decide +kernel
theorem d_2_36_147 : decode prog_2_method_36_code 147 = .ok (.ifCond .lt 7, 3) := by decide +kernel
theorem d_2_36_154 : decode prog_2_method_36_code 154 = .ok (.aload_n 0, 1) := by decide +kernel
theorem d_2_36_155 : decode prog_2_method_36_code 155 = .ok (.iload_n 1, 1) := by decide +kernel
theorem d_2_36_156 : decode prog_2_method_36_code 156 = .ok (.aload_n 2, 1) := by decide +kernel
theorem d_2_36_157 : decode prog_2_method_36_code 157 = .ok (.invokevirtual 140, 3) := by decide +kernel
set_option maxRecDepth 100000 in
theorem w_1058 : (Cond.code ({ cls := "NumberHouse$Big", name := "giveBack", desc := "(ILNumberHouse$Big;)V" } : MethodName) prog_2_method_38_code (7 : Nat) (none : Option ClassFile.FieldType)) ∈ q_tbl := q_of5 98 rfl (by decide +kernel)
set_option maxRecDepth 100000 in
theorem w_1055 : (Cond.methodLink "NumberHouse$Big" (140 : Nat) ({ cls := "NumberHouse$Big", name := "giveBack", desc := "(ILNumberHouse$Big;)V" } : MethodName)) ∈ q_tbl := q_of5 95 rfl (by decide +kernel)
set_option maxRecDepth 100000 in
theorem w_1057 : (Cond.instanceMethod ({ cls := "NumberHouse$Big", name := "giveBack", desc := "(ILNumberHouse$Big;)V" } : MethodName)) ∈ q_tbl := q_of5 97 rfl (by decide +kernel)
theorem ws_18 : Cond.selects "NumberHouse$Big" (⟨"NumberHouse$Big", "giveBack", "(ILNumberHouse$Big;)V"⟩ : MethodName) (⟨"NumberHouse$Big", "giveBack", "(ILNumberHouse$Big;)V"⟩ : MethodName) ∈ q_tbl := q_ofs 18 (by decide +kernel) (by decide +kernel)
theorem LV_Big_140 : q_LV "NumberHouse$Big" 140 y_Big_giveBack prog_2_method_38_code 7 none 2 := ⟨w_1058, w_4, w_1055, w_1057, ws_18, ⟨by decide, by decide, by decide +kernel⟩⟩
theorem d_2_36_160 : decode prog_2_method_36_code 160 = .ok (.lload 4, 2) := by decide +kernel
theorem d_2_36_162 : decode prog_2_method_36_code 162 = .ok (.l2i, 1) := by decide +kernel
theorem d_2_36_163 : decode prog_2_method_36_code 163 = .ok (.iconst 1, 1) := by decide +kernel
theorem d_2_36_164 : decode prog_2_method_36_code 164 = .ok (.isub, 1) := by decide +kernel
theorem d_2_36_165 : decode prog_2_method_36_code 165 = .ok (.ireturn, 1) := by decide +kernel
theorem d_2_36_150 : decode prog_2_method_36_code 150 = .ok (.lload 4, 2) := by decide +kernel
theorem d_2_36_152 : decode prog_2_method_36_code 152 = .ok (.l2i, 1) := by decide +kernel
theorem d_2_36_153 : decode prog_2_method_36_code 153 = .ok (.ireturn, 1) := by decide +kernel
theorem d_2_36_125 : decode prog_2_method_36_code 125 = .ok (.if_icmp .ge 18, 3) := by decide +kernel
theorem d_2_36_128 : decode prog_2_method_36_code 128 = .ok (.aload_n 0, 1) := by decide +kernel
theorem d_2_36_129 : decode prog_2_method_36_code 129 = .ok (.getfield 7, 3) := by decide +kernel
theorem d_2_36_132 : decode prog_2_method_36_code 132 = .ok (.iload_n 1, 1) := by decide +kernel
theorem d_2_36_133 : decode prog_2_method_36_code 133 = .ok (.iload_n 3, 1) := by decide +kernel
theorem d_2_36_134 : decode prog_2_method_36_code 134 = .ok (.iadd, 1) := by decide +kernel
theorem d_2_36_135 : decode prog_2_method_36_code 135 = .ok (.lload 8, 2) := by decide +kernel
theorem d_2_36_137 : decode prog_2_method_36_code 137 = .ok (.ldc2_w 30, 3) := by decide +kernel
theorem d_2_36_140 : decode prog_2_method_36_code 140 = .ok (.land, 1) := by decide +kernel
theorem d_2_36_141 : decode prog_2_method_36_code 141 = .ok (.l2i, 1) := by decide +kernel
theorem d_2_36_142 : decode prog_2_method_36_code 142 = .ok (.iastore, 1) := by decide +kernel
theorem d_2_36_27 : decode prog_2_method_36_code 27 = .ok (.lload 6, 2) := by decide +kernel
theorem d_2_36_29 : decode prog_2_method_36_code 29 = .ok (.lload 4, 2) := by decide +kernel
theorem d_2_36_31 : decode prog_2_method_36_code 31 = .ok (.aload_n 2, 1) := by decide +kernel
theorem d_2_36_32 : decode prog_2_method_36_code 32 = .ok (.getfield 7, 3) := by decide +kernel
theorem d_2_36_35 : decode prog_2_method_36_code 35 = .ok (.iload 8, 2) := by decide +kernel
theorem d_2_36_37 : decode prog_2_method_36_code 37 = .ok (.iaload, 1) := by decide +kernel
theorem d_2_36_38 : decode prog_2_method_36_code 38 = .ok (.i2l, 1) := by decide +kernel
theorem d_2_36_39 : decode prog_2_method_36_code 39 = .ok (.lmul, 1) := by decide +kernel
theorem d_2_36_40 : decode prog_2_method_36_code 40 = .ok (.ladd, 1) := by decide +kernel
theorem d_2_36_41 : decode prog_2_method_36_code 41 = .ok (.lstore 6, 2) := by decide +kernel
theorem d_2_36_43 : decode prog_2_method_36_code 43 = .ok (.aload_n 0, 1) := by decide +kernel
theorem d_2_36_44 : decode prog_2_method_36_code 44 = .ok (.iload_n 1, 1) := by decide +kernel
theorem d_2_36_45 : decode prog_2_method_36_code 45 = .ok (.iload 8, 2) := by decide +kernel
theorem d_2_36_47 : decode prog_2_method_36_code 47 = .ok (.iadd, 1) := by decide +kernel
theorem d_2_36_48 : decode prog_2_method_36_code 48 = .ok (.invokevirtual 49, 3) := by decide +kernel
theorem d_2_36_51 : decode prog_2_method_36_code 51 = .ok (.i2l, 1) := by decide +kernel
theorem d_2_36_52 : decode prog_2_method_36_code 52 = .ok (.lload 6, 2) := by decide +kernel
theorem d_2_36_54 : decode prog_2_method_36_code 54 = .ok (.ldc2_w 30, 3) := by decide +kernel
theorem d_2_36_57 : decode prog_2_method_36_code 57 = .ok (.land, 1) := by decide +kernel
theorem d_2_36_58 : decode prog_2_method_36_code 58 = .ok (.lsub, 1) := by decide +kernel
theorem d_2_36_59 : decode prog_2_method_36_code 59 = .ok (.lstore 9, 2) := by decide +kernel
theorem d_2_36_61 : decode prog_2_method_36_code 61 = .ok (.lload 6, 2) := by decide +kernel
theorem d_2_36_63 : decode prog_2_method_36_code 63 = .ok (.bipush 31, 2) := by decide +kernel
theorem d_2_36_65 : decode prog_2_method_36_code 65 = .ok (.lushr, 1) := by decide +kernel
theorem d_2_36_66 : decode prog_2_method_36_code 66 = .ok (.lload 9, 2) := by decide +kernel
theorem d_2_36_68 : decode prog_2_method_36_code 68 = .ok (.lconst 0, 1) := by decide +kernel
theorem d_2_36_69 : decode prog_2_method_36_code 69 = .ok (.lcmp, 1) := by decide +kernel
theorem d_2_36_78 : decode prog_2_method_36_code 78 = .ok (.i2l, 1) := by decide +kernel
theorem d_2_36_79 : decode prog_2_method_36_code 79 = .ok (.ladd, 1) := by decide +kernel
theorem d_2_36_80 : decode prog_2_method_36_code 80 = .ok (.lstore 6, 2) := by decide +kernel
theorem d_2_36_82 : decode prog_2_method_36_code 82 = .ok (.aload_n 0, 1) := by decide +kernel
theorem d_2_36_83 : decode prog_2_method_36_code 83 = .ok (.getfield 7, 3) := by decide +kernel
theorem d_2_36_86 : decode prog_2_method_36_code 86 = .ok (.iload_n 1, 1) := by decide +kernel
theorem d_2_36_87 : decode prog_2_method_36_code 87 = .ok (.iload 8, 2) := by decide +kernel
theorem d_2_36_89 : decode prog_2_method_36_code 89 = .ok (.iadd, 1) := by decide +kernel
theorem d_2_36_90 : decode prog_2_method_36_code 90 = .ok (.lload 9, 2) := by decide +kernel
theorem d_2_36_92 : decode prog_2_method_36_code 92 = .ok (.ldc2_w 30, 3) := by decide +kernel
theorem d_2_36_95 : decode prog_2_method_36_code 95 = .ok (.land, 1) := by decide +kernel
theorem d_2_36_96 : decode prog_2_method_36_code 96 = .ok (.l2i, 1) := by decide +kernel
theorem d_2_36_97 : decode prog_2_method_36_code 97 = .ok (.iastore, 1) := by decide +kernel
theorem d_2_36_98 : decode prog_2_method_36_code 98 = .ok (.iinc 8 1, 3) := by decide +kernel
theorem d_2_36_101 : decode prog_2_method_36_code 101 = .ok (.goto (-80), 3) := by decide +kernel
theorem d_2_36_70 : decode prog_2_method_36_code 70 = .ok (.ifCond .ge 7, 3) := by decide +kernel
theorem d_2_36_77 : decode prog_2_method_36_code 77 = .ok (.iconst 0, 1) := by decide +kernel
theorem d_2_36_73 : decode prog_2_method_36_code 73 = .ok (.iconst 1, 1) := by decide +kernel
theorem d_2_36_74 : decode prog_2_method_36_code 74 = .ok (.goto 4, 3) := by decide +kernel
def y_Big_takeTimes : MethodName := ⟨"NumberHouse$Big", "takeTimes", "(ILNumberHouse$Big;)I"⟩
theorem d_2_35_0 : decode prog_2_method_35_code 0 = .ok (.aload_n 0, 1) := by decide +kernel
theorem d_2_35_1 : decode prog_2_method_35_code 1 = .ok (.getfield 17, 3) := by decide +kernel
theorem d_2_35_4 : decode prog_2_method_35_code 4 = .ok (.istore_n 3, 1) := by decide +kernel
theorem d_2_35_5 : decode prog_2_method_35_code 5 = .ok (.aload_n 2, 1) := by decide +kernel
theorem d_2_35_6 : decode prog_2_method_35_code 6 = .ok (.aload_n 0, 1) := by decide +kernel
theorem d_2_35_7 : decode prog_2_method_35_code 7 = .ok (.invokevirtual 129, 3) := by decide +kernel
set_option maxRecDepth 100000 in
theorem w_790 : (Cond.code ({ cls := "NumberHouse$Big", name := "copy", desc := "(LNumberHouse$Big;)V" } : MethodName) prog_2_method_4_code (2 : Nat) (none : Option ClassFile.FieldType)) ∈ q_tbl := q_of4 70 rfl (by decide +kernel)
set_option maxRecDepth 100000 in
theorem w_1038 : (Cond.methodLink "NumberHouse$Big" (129 : Nat) ({ cls := "NumberHouse$Big", name := "copy", desc := "(LNumberHouse$Big;)V" } : MethodName)) ∈ q_tbl := q_of5 78 rfl (by decide +kernel)
set_option maxRecDepth 100000 in
theorem w_788 : (Cond.instanceMethod ({ cls := "NumberHouse$Big", name := "copy", desc := "(LNumberHouse$Big;)V" } : MethodName)) ∈ q_tbl := q_of4 68 rfl (by decide +kernel)
set_option maxRecDepth 100000 in
theorem w_789 : (Cond.selects "NumberHouse$Big" ({ cls := "NumberHouse$Big", name := "copy", desc := "(LNumberHouse$Big;)V" } : MethodName) ({ cls := "NumberHouse$Big", name := "copy", desc := "(LNumberHouse$Big;)V" } : MethodName)) ∈ q_tbl := q_of4 69 rfl (by decide +kernel)
theorem LV_Big_129 : q_LV "NumberHouse$Big" 129 y_Big_copy prog_2_method_4_code 2 none 1 := ⟨w_790, w_4, w_1038, w_788, w_789, ⟨by decide, by decide, by decide +kernel⟩⟩
theorem d_2_35_10 : decode prog_2_method_35_code 10 = .ok (.aload_n 2, 1) := by decide +kernel
theorem d_2_35_11 : decode prog_2_method_35_code 11 = .ok (.iconst 0, 1) := by decide +kernel
theorem d_2_35_12 : decode prog_2_method_35_code 12 = .ok (.putfield 17, 3) := by decide +kernel
theorem d_2_35_15 : decode prog_2_method_35_code 15 = .ok (.aload_n 2, 1) := by decide +kernel
theorem d_2_35_16 : decode prog_2_method_35_code 16 = .ok (.iload_n 1, 1) := by decide +kernel
theorem d_2_35_17 : decode prog_2_method_35_code 17 = .ok (.invokevirtual 105, 3) := by decide +kernel
theorem d_2_35_20 : decode prog_2_method_35_code 20 = .ok (.istore 4, 2) := by decide +kernel
theorem d_2_35_22 : decode prog_2_method_35_code 22 = .ok (.aload_n 0, 1) := by decide +kernel
theorem d_2_35_23 : decode prog_2_method_35_code 23 = .ok (.iload 4, 2) := by decide +kernel
theorem d_2_35_25 : decode prog_2_method_35_code 25 = .ok (.i2l, 1) := by decide +kernel
theorem d_2_35_26 : decode prog_2_method_35_code 26 = .ok (.invokevirtual 132, 3) := by decide +kernel
set_option maxRecDepth 100000 in
theorem w_1044 : (Cond.methodLink "NumberHouse$Big" (132 : Nat) ({ cls := "NumberHouse$Big", name := "setLong", desc := "(J)V" } : MethodName)) ∈ q_tbl := q_of5 84 rfl (by decide +kernel)
theorem LV_Big_132 : q_LV "NumberHouse$Big" 132 y_Big_setLong prog_2_method_3_code 6 none 1 := ⟨w_193, w_4, w_1044, w_191, w_192, ⟨by decide, by decide, by decide +kernel⟩⟩
theorem d_2_35_29 : decode prog_2_method_35_code 29 = .ok (.aload_n 0, 1) := by decide +kernel
theorem d_2_35_30 : decode prog_2_method_35_code 30 = .ok (.iload_n 3, 1) := by decide +kernel
theorem d_2_35_31 : decode prog_2_method_35_code 31 = .ok (.ifCond .eq 12, 3) := by decide +kernel
theorem d_2_35_43 : decode prog_2_method_35_code 43 = .ok (.iconst 0, 1) := by decide +kernel
theorem d_2_35_44 : decode prog_2_method_35_code 44 = .ok (.putfield 17, 3) := by decide +kernel
theorem d_2_35_47 : decode prog_2_method_35_code 47 = .ok (.return_, 1) := by decide +kernel
theorem d_2_35_34 : decode prog_2_method_35_code 34 = .ok (.iload 4, 2) := by decide +kernel
theorem d_2_35_36 : decode prog_2_method_35_code 36 = .ok (.ifCond .eq 7, 3) := by decide +kernel
theorem d_2_35_39 : decode prog_2_method_35_code 39 = .ok (.iconst 1, 1) := by decide +kernel
theorem d_2_35_40 : decode prog_2_method_35_code 40 = .ok (.goto 4, 3) := by decide +kernel
def y_Big_divideByLimb : MethodName := ⟨"NumberHouse$Big", "divideByLimb", "(ILNumberHouse$Big;)V"⟩
/-! Digits -/
theorem n_negL {a : Int64} {x : Int} (ha : a.toInt = x) (h : -9223372036854775808 < x) : (-a).toInt = -x := by
  have h1 := Int64.toInt_lt a
  rw [Int64.toInt_neg, ha]
  exact q_bmL (by omega) (by omega)
theorem d_29_59_0 : decode prog_29_method_59_code 0 = .ok (.iload_n 0, 1) := by decide +kernel
theorem d_29_59_1 : decode prog_29_method_59_code 1 = .ok (.ifCond .ge 8, 3) := by decide +kernel
theorem d_29_59_9 : decode prog_29_method_59_code 9 = .ok (.iload_n 0, 1) := by decide +kernel
theorem d_29_59_10 : decode prog_29_method_59_code 10 = .ok (.ireturn, 1) := by decide +kernel
theorem d_29_59_4 : decode prog_29_method_59_code 4 = .ok (.iload_n 0, 1) := by decide +kernel
theorem d_29_59_5 : decode prog_29_method_59_code 5 = .ok (.ineg, 1) := by decide +kernel
theorem d_29_59_6 : decode prog_29_method_59_code 6 = .ok (.goto 4, 3) := by decide +kernel
def y_jMath_abs_II : MethodName := ⟨"java/lang/Math", "abs", "(I)I"⟩
theorem d_11_6_0 : decode prog_11_method_6_code 0 = .ok (.iload_n 1, 1) := by decide +kernel
theorem d_11_6_1 : decode prog_11_method_6_code 1 = .ok (.invokestatic 38, 3) := by decide +kernel
set_option maxRecDepth 100000 in
theorem w_1384 : (Cond.code ({ cls := "java/lang/Math", name := "abs", desc := "(I)I" } : MethodName) prog_29_method_59_code (1 : Nat) (some .int)) ∈ q_tbl := q_of6 184 rfl (by decide +kernel)
set_option maxRecDepth 100000 in
theorem w_1586 : (Cond.methodLink "NumberHouse$Sheet" (38 : Nat) ({ cls := "java/lang/Math", name := "abs", desc := "(I)I" } : MethodName)) ∈ q_tbl := q_of7 146 rfl (by decide +kernel)
set_option maxRecDepth 100000 in
theorem w_1383 : (Cond.static ({ cls := "java/lang/Math", name := "abs", desc := "(I)I" } : MethodName)) ∈ q_tbl := q_of6 183 rfl (by decide +kernel)
theorem LS_She_38 : q_LS "NumberHouse$Sheet" 38 y_jMath_abs_II prog_29_method_59_code 1 (some .int) 1 := ⟨w_1384, w_7, w_1586, w_1383, ⟨by decide, by decide, by decide +kernel⟩⟩
theorem d_11_6_4 : decode prog_11_method_6_code 4 = .ok (.istore_n 3, 1) := by decide +kernel
theorem d_11_6_5 : decode prog_11_method_6_code 5 = .ok (.sipush 10000, 3) := by decide +kernel
theorem d_11_6_8 : decode prog_11_method_6_code 8 = .ok (.istore 4, 2) := by decide +kernel
theorem d_11_6_10 : decode prog_11_method_6_code 10 = .ok (.iconst 5, 1) := by decide +kernel
theorem d_11_6_11 : decode prog_11_method_6_code 11 = .ok (.istore 5, 2) := by decide +kernel
theorem d_11_6_13 : decode prog_11_method_6_code 13 = .ok (.iload 5, 2) := by decide +kernel
theorem d_11_6_15 : decode prog_11_method_6_code 15 = .ok (.ifCond .le 46, 3) := by decide +kernel
theorem d_11_6_61 : decode prog_11_method_6_code 61 = .ok (.return_, 1) := by decide +kernel
theorem d_11_6_18 : decode prog_11_method_6_code 18 = .ok (.iload 5, 2) := by decide +kernel
theorem d_11_6_20 : decode prog_11_method_6_code 20 = .ok (.iload_n 2, 1) := by decide +kernel
theorem d_11_6_30 : decode prog_11_method_6_code 30 = .ok (.aload_n 0, 1) := by decide +kernel
theorem d_11_6_31 : decode prog_11_method_6_code 31 = .ok (.bipush 48, 2) := by decide +kernel
theorem d_11_6_33 : decode prog_11_method_6_code 33 = .ok (.iload_n 3, 1) := by decide +kernel
theorem d_11_6_34 : decode prog_11_method_6_code 34 = .ok (.iload 4, 2) := by decide +kernel
theorem d_11_6_36 : decode prog_11_method_6_code 36 = .ok (.idiv, 1) := by decide +kernel
theorem d_11_6_37 : decode prog_11_method_6_code 37 = .ok (.bipush 10, 2) := by decide +kernel
theorem d_11_6_39 : decode prog_11_method_6_code 39 = .ok (.irem, 1) := by decide +kernel
theorem d_11_6_40 : decode prog_11_method_6_code 40 = .ok (.iadd, 1) := by decide +kernel
theorem d_11_6_41 : decode prog_11_method_6_code 41 = .ok (.invokevirtual 34, 3) := by decide +kernel
theorem d_11_6_44 : decode prog_11_method_6_code 44 = .ok (.iload 4, 2) := by decide +kernel
theorem d_11_6_46 : decode prog_11_method_6_code 46 = .ok (.bipush 10, 2) := by decide +kernel
theorem d_11_6_48 : decode prog_11_method_6_code 48 = .ok (.idiv, 1) := by decide +kernel
theorem d_11_6_49 : decode prog_11_method_6_code 49 = .ok (.iconst 1, 1) := by decide +kernel
theorem d_11_6_50 : decode prog_11_method_6_code 50 = .ok (.invokestatic 44, 3) := by decide +kernel
set_option maxRecDepth 100000 in
theorem w_1588 : (Cond.methodLink "NumberHouse$Sheet" (44 : Nat) ({ cls := "java/lang/Math", name := "max", desc := "(II)I" } : MethodName)) ∈ q_tbl := q_of7 148 rfl (by decide +kernel)
theorem d_11_6_53 : decode prog_11_method_6_code 53 = .ok (.istore 4, 2) := by decide +kernel
theorem d_11_6_55 : decode prog_11_method_6_code 55 = .ok (.iinc 5 (-1), 3) := by decide +kernel
theorem d_11_6_58 : decode prog_11_method_6_code 58 = .ok (.goto (-45), 3) := by decide +kernel
theorem d_11_6_21 : decode prog_11_method_6_code 21 = .ok (.if_icmp .le 9, 3) := by decide +kernel
theorem d_11_6_24 : decode prog_11_method_6_code 24 = .ok (.iload_n 3, 1) := by decide +kernel
theorem d_11_6_25 : decode prog_11_method_6_code 25 = .ok (.iload 4, 2) := by decide +kernel
theorem d_11_6_27 : decode prog_11_method_6_code 27 = .ok (.if_icmp .lt 17, 3) := by decide +kernel
def y_She_addPower : MethodName := ⟨"NumberHouse$Sheet", "addPower", "(II)V"⟩
theorem d_5_5_0 : decode prog_5_method_5_code 0 = .ok (.iload_n 1, 1) := by decide +kernel
theorem d_5_5_1 : decode prog_5_method_5_code 1 = .ok (.ifCond .lt 20, 3) := by decide +kernel
theorem d_5_5_21 : decode prog_5_method_5_code 21 = .ok (.iconst 0, 1) := by decide +kernel
theorem d_5_5_22 : decode prog_5_method_5_code 22 = .ok (.ireturn, 1) := by decide +kernel
theorem d_5_5_4 : decode prog_5_method_5_code 4 = .ok (.iload_n 1, 1) := by decide +kernel
theorem d_5_5_5 : decode prog_5_method_5_code 5 = .ok (.aload_n 0, 1) := by decide +kernel
theorem d_5_5_6 : decode prog_5_method_5_code 6 = .ok (.getfield 13, 3) := by decide +kernel
set_option maxRecDepth 100000 in
theorem w_264 : (Cond.fieldLink "NumberHouse$Digits" (13 : Nat) "NumberHouse$Digits" "count" "I") ∈ q_tbl := q_of2 24 rfl (by decide +kernel)
theorem d_5_5_9 : decode prog_5_method_5_code 9 = .ok (.if_icmp .ge 12, 3) := by decide +kernel
theorem d_5_5_12 : decode prog_5_method_5_code 12 = .ok (.aload_n 0, 1) := by decide +kernel
theorem d_5_5_13 : decode prog_5_method_5_code 13 = .ok (.getfield 9, 3) := by decide +kernel
theorem d_5_5_16 : decode prog_5_method_5_code 16 = .ok (.iload_n 1, 1) := by decide +kernel
theorem d_5_5_17 : decode prog_5_method_5_code 17 = .ok (.baload, 1) := by decide +kernel
theorem d_5_5_18 : decode prog_5_method_5_code 18 = .ok (.goto 4, 3) := by decide +kernel
def y_Dig_figure : MethodName := ⟨"NumberHouse$Digits", "figure", "(I)I"⟩
theorem d_5_4_0 : decode prog_5_method_4_code 0 = .ok (.aload_n 0, 1) := by decide +kernel
theorem d_5_4_1 : decode prog_5_method_4_code 1 = .ok (.getfield 13, 3) := by decide +kernel
theorem d_5_4_34 : decode prog_5_method_4_code 34 = .ok (.iconst 0, 1) := by decide +kernel
theorem d_5_4_35 : decode prog_5_method_4_code 35 = .ok (.istore_n 2, 1) := by decide +kernel
theorem d_5_4_36 : decode prog_5_method_4_code 36 = .ok (.aload_n 0, 1) := by decide +kernel
theorem d_5_4_37 : decode prog_5_method_4_code 37 = .ok (.getfield 13, 3) := by decide +kernel
theorem d_5_4_40 : decode prog_5_method_4_code 40 = .ok (.iconst 1, 1) := by decide +kernel
theorem d_5_4_41 : decode prog_5_method_4_code 41 = .ok (.isub, 1) := by decide +kernel
theorem d_5_4_42 : decode prog_5_method_4_code 42 = .ok (.istore_n 3, 1) := by decide +kernel
theorem d_5_4_43 : decode prog_5_method_4_code 43 = .ok (.iload_n 2, 1) := by decide +kernel
theorem d_5_4_44 : decode prog_5_method_4_code 44 = .ok (.iload_n 3, 1) := by decide +kernel
theorem d_5_4_45 : decode prog_5_method_4_code 45 = .ok (.if_icmp .ge 40, 3) := by decide +kernel
theorem d_5_4_85 : decode prog_5_method_4_code 85 = .ok (.aload_n 0, 1) := by decide +kernel
theorem d_5_4_86 : decode prog_5_method_4_code 86 = .ok (.aload_n 0, 1) := by decide +kernel
theorem d_5_4_87 : decode prog_5_method_4_code 87 = .ok (.getfield 13, 3) := by decide +kernel
theorem d_5_4_90 : decode prog_5_method_4_code 90 = .ok (.ifCond .ne 7, 3) := by decide +kernel
theorem d_5_4_97 : decode prog_5_method_4_code 97 = .ok (.aload_n 0, 1) := by decide +kernel
theorem d_5_4_98 : decode prog_5_method_4_code 98 = .ok (.getfield 13, 3) := by decide +kernel
theorem d_5_4_101 : decode prog_5_method_4_code 101 = .ok (.iconst 1, 1) := by decide +kernel
theorem d_5_4_102 : decode prog_5_method_4_code 102 = .ok (.isub, 1) := by decide +kernel
theorem d_5_4_103 : decode prog_5_method_4_code 103 = .ok (.iload_n 1, 1) := by decide +kernel
theorem d_5_4_104 : decode prog_5_method_4_code 104 = .ok (.isub, 1) := by decide +kernel
theorem d_5_4_105 : decode prog_5_method_4_code 105 = .ok (.putfield 33, 3) := by decide +kernel
set_option maxRecDepth 100000 in
theorem w_266 : (Cond.fieldLink "NumberHouse$Digits" (33 : Nat) "NumberHouse$Digits" "power" "I") ∈ q_tbl := q_of2 26 rfl (by decide +kernel)
theorem d_5_4_108 : decode prog_5_method_4_code 108 = .ok (.return_, 1) := by decide +kernel
theorem d_5_4_93 : decode prog_5_method_4_code 93 = .ok (.iconst 0, 1) := by decide +kernel
theorem d_5_4_94 : decode prog_5_method_4_code 94 = .ok (.goto 11, 3) := by decide +kernel
theorem d_5_4_48 : decode prog_5_method_4_code 48 = .ok (.aload_n 0, 1) := by decide +kernel
theorem d_5_4_49 : decode prog_5_method_4_code 49 = .ok (.getfield 9, 3) := by decide +kernel
theorem d_5_4_52 : decode prog_5_method_4_code 52 = .ok (.iload_n 2, 1) := by decide +kernel
theorem d_5_4_53 : decode prog_5_method_4_code 53 = .ok (.baload, 1) := by decide +kernel
theorem d_5_4_54 : decode prog_5_method_4_code 54 = .ok (.istore 4, 2) := by decide +kernel
theorem d_5_4_56 : decode prog_5_method_4_code 56 = .ok (.aload_n 0, 1) := by decide +kernel
theorem d_5_4_57 : decode prog_5_method_4_code 57 = .ok (.getfield 9, 3) := by decide +kernel
theorem d_5_4_60 : decode prog_5_method_4_code 60 = .ok (.iload_n 2, 1) := by decide +kernel
theorem d_5_4_61 : decode prog_5_method_4_code 61 = .ok (.aload_n 0, 1) := by decide +kernel
theorem d_5_4_62 : decode prog_5_method_4_code 62 = .ok (.getfield 9, 3) := by decide +kernel
theorem d_5_4_65 : decode prog_5_method_4_code 65 = .ok (.iload_n 3, 1) := by decide +kernel
theorem d_5_4_66 : decode prog_5_method_4_code 66 = .ok (.baload, 1) := by decide +kernel
theorem d_5_4_67 : decode prog_5_method_4_code 67 = .ok (.bastore, 1) := by decide +kernel
theorem d_5_4_68 : decode prog_5_method_4_code 68 = .ok (.aload_n 0, 1) := by decide +kernel
theorem d_5_4_69 : decode prog_5_method_4_code 69 = .ok (.getfield 9, 3) := by decide +kernel
theorem d_5_4_72 : decode prog_5_method_4_code 72 = .ok (.iload_n 3, 1) := by decide +kernel
theorem d_5_4_73 : decode prog_5_method_4_code 73 = .ok (.iload 4, 2) := by decide +kernel
theorem d_5_4_75 : decode prog_5_method_4_code 75 = .ok (.bastore, 1) := by decide +kernel
theorem d_5_4_76 : decode prog_5_method_4_code 76 = .ok (.iinc 2 1, 3) := by decide +kernel
theorem d_5_4_79 : decode prog_5_method_4_code 79 = .ok (.iinc 3 (-1), 3) := by decide +kernel
theorem d_5_4_82 : decode prog_5_method_4_code 82 = .ok (.goto (-39), 3) := by decide +kernel
theorem d_5_4_4 : decode prog_5_method_4_code 4 = .ok (.ifCond .le 30, 3) := by decide +kernel
theorem d_5_4_7 : decode prog_5_method_4_code 7 = .ok (.aload_n 0, 1) := by decide +kernel
theorem d_5_4_8 : decode prog_5_method_4_code 8 = .ok (.getfield 9, 3) := by decide +kernel
theorem d_5_4_11 : decode prog_5_method_4_code 11 = .ok (.aload_n 0, 1) := by decide +kernel
theorem d_5_4_12 : decode prog_5_method_4_code 12 = .ok (.getfield 13, 3) := by decide +kernel
theorem d_5_4_15 : decode prog_5_method_4_code 15 = .ok (.iconst 1, 1) := by decide +kernel
theorem d_5_4_16 : decode prog_5_method_4_code 16 = .ok (.isub, 1) := by decide +kernel
theorem d_5_4_17 : decode prog_5_method_4_code 17 = .ok (.baload, 1) := by decide +kernel
theorem d_5_4_18 : decode prog_5_method_4_code 18 = .ok (.ifCond .ne 16, 3) := by decide +kernel
theorem d_5_4_21 : decode prog_5_method_4_code 21 = .ok (.aload_n 0, 1) := by decide +kernel
theorem d_5_4_22 : decode prog_5_method_4_code 22 = .ok (.dup, 1) := by decide +kernel
theorem d_5_4_23 : decode prog_5_method_4_code 23 = .ok (.getfield 13, 3) := by decide +kernel
theorem d_5_4_26 : decode prog_5_method_4_code 26 = .ok (.iconst 1, 1) := by decide +kernel
theorem d_5_4_27 : decode prog_5_method_4_code 27 = .ok (.isub, 1) := by decide +kernel
theorem d_5_4_28 : decode prog_5_method_4_code 28 = .ok (.putfield 13, 3) := by decide +kernel
theorem d_5_4_31 : decode prog_5_method_4_code 31 = .ok (.goto (-31), 3) := by decide +kernel
def y_Dig_turn : MethodName := ⟨"NumberHouse$Digits", "turn", "(I)V"⟩
theorem d_5_2_0 : decode prog_5_method_2_code 0 = .ok (.aload_n 0, 1) := by decide +kernel
theorem d_5_2_1 : decode prog_5_method_2_code 1 = .ok (.iconst 0, 1) := by decide +kernel
theorem d_5_2_2 : decode prog_5_method_2_code 2 = .ok (.putfield 13, 3) := by decide +kernel
theorem d_5_2_5 : decode prog_5_method_2_code 5 = .ok (.iconst 0, 1) := by decide +kernel
theorem d_5_2_6 : decode prog_5_method_2_code 6 = .ok (.istore_n 3, 1) := by decide +kernel
theorem d_5_2_7 : decode prog_5_method_2_code 7 = .ok (.iload_n 3, 1) := by decide +kernel
theorem d_5_2_8 : decode prog_5_method_2_code 8 = .ok (.bipush 114, 2) := by decide +kernel
theorem d_5_2_10 : decode prog_5_method_2_code 10 = .ok (.if_icmp .ge 72, 3) := by decide +kernel
theorem d_5_2_82 : decode prog_5_method_2_code 82 = .ok (.aload_n 0, 1) := by decide +kernel
theorem d_5_2_83 : decode prog_5_method_2_code 83 = .ok (.iload_n 2, 1) := by decide +kernel
theorem d_5_2_84 : decode prog_5_method_2_code 84 = .ok (.invokevirtual 27, 3) := by decide +kernel
set_option maxRecDepth 100000 in
theorem w_1147 : (Cond.code ({ cls := "NumberHouse$Digits", name := "turn", desc := "(I)V" } : MethodName) prog_5_method_4_code (5 : Nat) (none : Option ClassFile.FieldType)) ∈ q_tbl := q_of5 187 rfl (by decide +kernel)
set_option maxRecDepth 100000 in
theorem w_1144 : (Cond.methodLink "NumberHouse$Digits" (27 : Nat) ({ cls := "NumberHouse$Digits", name := "turn", desc := "(I)V" } : MethodName)) ∈ q_tbl := q_of5 184 rfl (by decide +kernel)
set_option maxRecDepth 100000 in
theorem w_1146 : (Cond.instanceMethod ({ cls := "NumberHouse$Digits", name := "turn", desc := "(I)V" } : MethodName)) ∈ q_tbl := q_of5 186 rfl (by decide +kernel)
theorem ws_22 : Cond.selects "NumberHouse$Digits" (⟨"NumberHouse$Digits", "turn", "(I)V"⟩ : MethodName) (⟨"NumberHouse$Digits", "turn", "(I)V"⟩ : MethodName) ∈ q_tbl := q_ofs 22 (by decide +kernel) (by decide +kernel)
theorem LV_Dig_27 : q_LV "NumberHouse$Digits" 27 y_Dig_turn prog_5_method_4_code 5 none 1 := ⟨w_1147, w_9, w_1144, w_1146, ws_22, ⟨by decide, by decide, by decide +kernel⟩⟩
theorem d_5_2_87 : decode prog_5_method_2_code 87 = .ok (.return_, 1) := by decide +kernel
theorem d_5_2_13 : decode prog_5_method_2_code 13 = .ok (.aload_n 1, 1) := by decide +kernel
theorem d_5_2_14 : decode prog_5_method_2_code 14 = .ok (.getfield 17, 3) := by decide +kernel
set_option maxRecDepth 100000 in
theorem w_86 : (Cond.fieldLink "NumberHouse$Digits" (17 : Nat) "NumberHouse$Big" "size" "I") ∈ q_tbl := q_of1 86 rfl (by decide +kernel)
theorem d_5_2_17 : decode prog_5_method_2_code 17 = .ok (.ifCond .le 65, 3) := by decide +kernel
theorem d_5_2_20 : decode prog_5_method_2_code 20 = .ok (.aload_n 1, 1) := by decide +kernel
theorem d_5_2_21 : decode prog_5_method_2_code 21 = .ok (.ldc 22, 2) := by decide +kernel
set_option maxRecDepth 100000 in
theorem w_1142 : (Cond.constant "NumberHouse$Digits" (22 : Nat) (1000000000 : Int32)) ∈ q_tbl := q_of5 182 rfl (by decide +kernel)
theorem d_5_2_23 : decode prog_5_method_2_code 23 = .ok (.invokevirtual 23, 3) := by decide +kernel
set_option maxRecDepth 100000 in
theorem w_1143 : (Cond.methodLink "NumberHouse$Digits" (23 : Nat) ({ cls := "NumberHouse$Big", name := "divideSmall", desc := "(I)I" } : MethodName)) ∈ q_tbl := q_of5 183 rfl (by decide +kernel)
theorem LV_Dig_23 : q_LV "NumberHouse$Digits" 23 y_Big_divideSmall prog_2_method_27_code 8 (some .int) 1 := ⟨w_1042, w_4, w_1143, w_1040, w_1041, ⟨by decide, by decide, by decide +kernel⟩⟩
theorem d_5_2_26 : decode prog_5_method_2_code 26 = .ok (.istore 4, 2) := by decide +kernel
theorem d_5_2_28 : decode prog_5_method_2_code 28 = .ok (.iconst 0, 1) := by decide +kernel
theorem d_5_2_29 : decode prog_5_method_2_code 29 = .ok (.istore 5, 2) := by decide +kernel
theorem d_5_2_31 : decode prog_5_method_2_code 31 = .ok (.iload 5, 2) := by decide +kernel
theorem d_5_2_33 : decode prog_5_method_2_code 33 = .ok (.bipush 9, 2) := by decide +kernel
theorem d_5_2_35 : decode prog_5_method_2_code 35 = .ok (.if_icmp .ge 41, 3) := by decide +kernel
theorem d_5_2_76 : decode prog_5_method_2_code 76 = .ok (.iinc 3 1, 3) := by decide +kernel
theorem d_5_2_79 : decode prog_5_method_2_code 79 = .ok (.goto (-72), 3) := by decide +kernel
theorem d_5_2_38 : decode prog_5_method_2_code 38 = .ok (.aload_n 0, 1) := by decide +kernel
theorem d_5_2_39 : decode prog_5_method_2_code 39 = .ok (.getfield 9, 3) := by decide +kernel
theorem d_5_2_42 : decode prog_5_method_2_code 42 = .ok (.aload_n 0, 1) := by decide +kernel
theorem d_5_2_43 : decode prog_5_method_2_code 43 = .ok (.getfield 13, 3) := by decide +kernel
theorem d_5_2_46 : decode prog_5_method_2_code 46 = .ok (.iload 4, 2) := by decide +kernel
theorem d_5_2_48 : decode prog_5_method_2_code 48 = .ok (.bipush 10, 2) := by decide +kernel
theorem d_5_2_50 : decode prog_5_method_2_code 50 = .ok (.irem, 1) := by decide +kernel
theorem d_5_2_51 : decode prog_5_method_2_code 51 = .ok (.i2b, 1) := by decide +kernel
theorem d_5_2_52 : decode prog_5_method_2_code 52 = .ok (.bastore, 1) := by decide +kernel
theorem d_5_2_53 : decode prog_5_method_2_code 53 = .ok (.iload 4, 2) := by decide +kernel
theorem d_5_2_55 : decode prog_5_method_2_code 55 = .ok (.bipush 10, 2) := by decide +kernel
theorem d_5_2_57 : decode prog_5_method_2_code 57 = .ok (.idiv, 1) := by decide +kernel
theorem d_5_2_58 : decode prog_5_method_2_code 58 = .ok (.istore 4, 2) := by decide +kernel
theorem d_5_2_60 : decode prog_5_method_2_code 60 = .ok (.aload_n 0, 1) := by decide +kernel
theorem d_5_2_61 : decode prog_5_method_2_code 61 = .ok (.dup, 1) := by decide +kernel
theorem d_5_2_62 : decode prog_5_method_2_code 62 = .ok (.getfield 13, 3) := by decide +kernel
theorem d_5_2_65 : decode prog_5_method_2_code 65 = .ok (.iconst 1, 1) := by decide +kernel
theorem d_5_2_66 : decode prog_5_method_2_code 66 = .ok (.iadd, 1) := by decide +kernel
theorem d_5_2_67 : decode prog_5_method_2_code 67 = .ok (.putfield 13, 3) := by decide +kernel
theorem d_5_2_70 : decode prog_5_method_2_code 70 = .ok (.iinc 5 1, 3) := by decide +kernel
theorem d_5_2_73 : decode prog_5_method_2_code 73 = .ok (.goto (-42), 3) := by decide +kernel
def y_Dig_fill : MethodName := ⟨"NumberHouse$Digits", "fill", "(LNumberHouse$Big;I)V"⟩
theorem d_5_3_0 : decode prog_5_method_3_code 0 = .ok (.aload_n 0, 1) := by decide +kernel
theorem d_5_3_1 : decode prog_5_method_3_code 1 = .ok (.iconst 0, 1) := by decide +kernel
theorem d_5_3_2 : decode prog_5_method_3_code 2 = .ok (.putfield 13, 3) := by decide +kernel
theorem d_5_3_5 : decode prog_5_method_3_code 5 = .ok (.lload_n 1, 1) := by decide +kernel
theorem d_5_3_6 : decode prog_5_method_3_code 6 = .ok (.lconst 0, 1) := by decide +kernel
theorem d_5_3_7 : decode prog_5_method_3_code 7 = .ok (.lcmp, 1) := by decide +kernel
theorem d_5_3_17 : decode prog_5_method_3_code 17 = .ok (.lstore 4, 2) := by decide +kernel
theorem d_5_3_19 : decode prog_5_method_3_code 19 = .ok (.iconst 0, 1) := by decide +kernel
theorem d_5_3_20 : decode prog_5_method_3_code 20 = .ok (.istore 6, 2) := by decide +kernel
theorem d_5_3_22 : decode prog_5_method_3_code 22 = .ok (.iload 6, 2) := by decide +kernel
theorem d_5_3_24 : decode prog_5_method_3_code 24 = .ok (.bipush 20, 2) := by decide +kernel
theorem d_5_3_26 : decode prog_5_method_3_code 26 = .ok (.if_icmp .ge 52, 3) := by decide +kernel
theorem d_5_3_78 : decode prog_5_method_3_code 78 = .ok (.aload_n 0, 1) := by decide +kernel
theorem d_5_3_79 : decode prog_5_method_3_code 79 = .ok (.iload_n 3, 1) := by decide +kernel
theorem d_5_3_80 : decode prog_5_method_3_code 80 = .ok (.invokevirtual 27, 3) := by decide +kernel
theorem d_5_3_83 : decode prog_5_method_3_code 83 = .ok (.return_, 1) := by decide +kernel
theorem d_5_3_29 : decode prog_5_method_3_code 29 = .ok (.lload 4, 2) := by decide +kernel
theorem d_5_3_31 : decode prog_5_method_3_code 31 = .ok (.lconst 0, 1) := by decide +kernel
theorem d_5_3_32 : decode prog_5_method_3_code 32 = .ok (.lcmp, 1) := by decide +kernel
theorem d_5_3_33 : decode prog_5_method_3_code 33 = .ok (.ifCond .eq 45, 3) := by decide +kernel
theorem d_5_3_36 : decode prog_5_method_3_code 36 = .ok (.aload_n 0, 1) := by decide +kernel
theorem d_5_3_37 : decode prog_5_method_3_code 37 = .ok (.getfield 9, 3) := by decide +kernel
theorem d_5_3_40 : decode prog_5_method_3_code 40 = .ok (.aload_n 0, 1) := by decide +kernel
theorem d_5_3_41 : decode prog_5_method_3_code 41 = .ok (.getfield 13, 3) := by decide +kernel
theorem d_5_3_44 : decode prog_5_method_3_code 44 = .ok (.lload 4, 2) := by decide +kernel
theorem d_5_3_46 : decode prog_5_method_3_code 46 = .ok (.ldc2_w 31, 3) := by decide +kernel
set_option maxRecDepth 100000 in
theorem w_1639 : (Cond.constantLong "NumberHouse$Digits" (31 : Nat) (10 : Int64)) ∈ q_tbl := q_of7 199 rfl (by decide +kernel)
theorem d_5_3_49 : decode prog_5_method_3_code 49 = .ok (.lrem, 1) := by decide +kernel
theorem d_5_3_50 : decode prog_5_method_3_code 50 = .ok (.lneg, 1) := by decide +kernel
theorem d_5_3_51 : decode prog_5_method_3_code 51 = .ok (.l2i, 1) := by decide +kernel
theorem d_5_3_52 : decode prog_5_method_3_code 52 = .ok (.i2b, 1) := by decide +kernel
theorem d_5_3_53 : decode prog_5_method_3_code 53 = .ok (.bastore, 1) := by decide +kernel
theorem d_5_3_54 : decode prog_5_method_3_code 54 = .ok (.lload 4, 2) := by decide +kernel
theorem d_5_3_56 : decode prog_5_method_3_code 56 = .ok (.ldc2_w 31, 3) := by decide +kernel
theorem d_5_3_59 : decode prog_5_method_3_code 59 = .ok (.ldiv, 1) := by decide +kernel
theorem d_5_3_60 : decode prog_5_method_3_code 60 = .ok (.lstore 4, 2) := by decide +kernel
theorem d_5_3_62 : decode prog_5_method_3_code 62 = .ok (.aload_n 0, 1) := by decide +kernel
theorem d_5_3_63 : decode prog_5_method_3_code 63 = .ok (.dup, 1) := by decide +kernel
theorem d_5_3_64 : decode prog_5_method_3_code 64 = .ok (.getfield 13, 3) := by decide +kernel
theorem d_5_3_67 : decode prog_5_method_3_code 67 = .ok (.iconst 1, 1) := by decide +kernel
theorem d_5_3_68 : decode prog_5_method_3_code 68 = .ok (.iadd, 1) := by decide +kernel
theorem d_5_3_69 : decode prog_5_method_3_code 69 = .ok (.putfield 13, 3) := by decide +kernel
theorem d_5_3_72 : decode prog_5_method_3_code 72 = .ok (.iinc 6 1, 3) := by decide +kernel
theorem d_5_3_75 : decode prog_5_method_3_code 75 = .ok (.goto (-53), 3) := by decide +kernel
theorem d_5_3_8 : decode prog_5_method_3_code 8 = .ok (.ifCond .le 8, 3) := by decide +kernel
theorem d_5_3_16 : decode prog_5_method_3_code 16 = .ok (.lload_n 1, 1) := by decide +kernel
theorem d_5_3_11 : decode prog_5_method_3_code 11 = .ok (.lload_n 1, 1) := by decide +kernel
theorem d_5_3_12 : decode prog_5_method_3_code 12 = .ok (.lneg, 1) := by decide +kernel
theorem d_5_3_13 : decode prog_5_method_3_code 13 = .ok (.goto 4, 3) := by decide +kernel
def y_Dig_fillLong : MethodName := ⟨"NumberHouse$Digits", "fillLong", "(JI)V"⟩
theorem d_5_7_0 : decode prog_5_method_7_code 0 = .ok (.aload_n 0, 1) := by decide +kernel
theorem d_5_7_1 : decode prog_5_method_7_code 1 = .ok (.iload_n 1, 1) := by decide +kernel
theorem d_5_7_2 : decode prog_5_method_7_code 2 = .ok (.invokevirtual 49, 3) := by decide +kernel
set_option maxRecDepth 100000 in
theorem w_1151 : (Cond.code ({ cls := "NumberHouse$Digits", name := "figure", desc := "(I)I" } : MethodName) prog_5_method_5_code (2 : Nat) (some .int)) ∈ q_tbl := q_of5 191 rfl (by decide +kernel)
set_option maxRecDepth 100000 in
theorem w_1572 : (Cond.methodLink "NumberHouse$Digits" (49 : Nat) ({ cls := "NumberHouse$Digits", name := "figure", desc := "(I)I" } : MethodName)) ∈ q_tbl := q_of7 132 rfl (by decide +kernel)
set_option maxRecDepth 100000 in
theorem w_1149 : (Cond.instanceMethod ({ cls := "NumberHouse$Digits", name := "figure", desc := "(I)I" } : MethodName)) ∈ q_tbl := q_of5 189 rfl (by decide +kernel)
set_option maxRecDepth 100000 in
theorem w_1150 : (Cond.selects "NumberHouse$Digits" ({ cls := "NumberHouse$Digits", name := "figure", desc := "(I)I" } : MethodName) ({ cls := "NumberHouse$Digits", name := "figure", desc := "(I)I" } : MethodName)) ∈ q_tbl := q_of5 190 rfl (by decide +kernel)
theorem LV_Dig_49 : q_LV "NumberHouse$Digits" 49 y_Dig_figure prog_5_method_5_code 2 (some .int) 1 := ⟨w_1151, w_9, w_1572, w_1149, w_1150, ⟨by decide, by decide, by decide +kernel⟩⟩
theorem d_5_7_5 : decode prog_5_method_7_code 5 = .ok (.istore_n 3, 1) := by decide +kernel
theorem d_5_7_6 : decode prog_5_method_7_code 6 = .ok (.iload_n 1, 1) := by decide +kernel
theorem d_5_7_15 : decode prog_5_method_7_code 15 = .ok (.istore 4, 2) := by decide +kernel
theorem d_5_7_17 : decode prog_5_method_7_code 17 = .ok (.iload_n 1, 1) := by decide +kernel
theorem d_5_7_18 : decode prog_5_method_7_code 18 = .ok (.iconst 1, 1) := by decide +kernel
theorem d_5_7_19 : decode prog_5_method_7_code 19 = .ok (.iadd, 1) := by decide +kernel
theorem d_5_7_20 : decode prog_5_method_7_code 20 = .ok (.iconst 0, 1) := by decide +kernel
theorem d_5_7_21 : decode prog_5_method_7_code 21 = .ok (.invokestatic 40, 3) := by decide +kernel
set_option maxRecDepth 100000 in
theorem w_1571 : (Cond.methodLink "NumberHouse$Digits" (40 : Nat) ({ cls := "java/lang/Math", name := "max", desc := "(II)I" } : MethodName)) ∈ q_tbl := q_of7 131 rfl (by decide +kernel)
theorem d_5_7_24 : decode prog_5_method_7_code 24 = .ok (.istore 5, 2) := by decide +kernel
theorem d_5_7_26 : decode prog_5_method_7_code 26 = .ok (.iload 5, 2) := by decide +kernel
theorem d_5_7_28 : decode prog_5_method_7_code 28 = .ok (.aload_n 0, 1) := by decide +kernel
theorem d_5_7_29 : decode prog_5_method_7_code 29 = .ok (.getfield 13, 3) := by decide +kernel
theorem d_5_7_63 : decode prog_5_method_7_code 63 = .ok (.iload_n 2, 1) := by decide +kernel
theorem d_5_7_64 : decode prog_5_method_7_code 64 = .ok (.iconst 1, 1) := by decide +kernel
theorem d_5_7_65 : decode prog_5_method_7_code 65 = .ok (.if_icmp .gt 23, 3) := by decide +kernel
theorem d_5_7_88 : decode prog_5_method_7_code 88 = .ok (.iload_n 3, 1) := by decide +kernel
theorem d_5_7_89 : decode prog_5_method_7_code 89 = .ok (.iconst 5, 1) := by decide +kernel
theorem d_5_7_90 : decode prog_5_method_7_code 90 = .ok (.if_icmp .ne 8, 3) := by decide +kernel
theorem d_5_7_98 : decode prog_5_method_7_code 98 = .ok (.iload_n 3, 1) := by decide +kernel
theorem d_5_7_99 : decode prog_5_method_7_code 99 = .ok (.iconst 5, 1) := by decide +kernel
theorem d_5_7_100 : decode prog_5_method_7_code 100 = .ok (.if_icmp .lt 7, 3) := by decide +kernel
theorem d_5_7_107 : decode prog_5_method_7_code 107 = .ok (.iconst 0, 1) := by decide +kernel
theorem d_5_7_108 : decode prog_5_method_7_code 108 = .ok (.ireturn, 1) := by decide +kernel
theorem d_5_7_103 : decode prog_5_method_7_code 103 = .ok (.iconst 1, 1) := by decide +kernel
theorem d_5_7_104 : decode prog_5_method_7_code 104 = .ok (.goto 4, 3) := by decide +kernel
theorem d_5_7_93 : decode prog_5_method_7_code 93 = .ok (.iload 4, 2) := by decide +kernel
theorem d_5_7_95 : decode prog_5_method_7_code 95 = .ok (.ifCond .eq 14, 3) := by decide +kernel
theorem d_5_7_109 : decode prog_5_method_7_code 109 = .ok (.iload_n 2, 1) := by decide +kernel
theorem d_5_7_110 : decode prog_5_method_7_code 110 = .ok (.iconst 2, 1) := by decide +kernel
theorem d_5_7_111 : decode prog_5_method_7_code 111 = .ok (.if_icmp .eq 16, 3) := by decide +kernel
theorem d_5_7_127 : decode prog_5_method_7_code 127 = .ok (.iconst 1, 1) := by decide +kernel
theorem d_5_7_128 : decode prog_5_method_7_code 128 = .ok (.goto 4, 3) := by decide +kernel
theorem d_5_7_132 : decode prog_5_method_7_code 132 = .ok (.ireturn, 1) := by decide +kernel
theorem d_5_7_114 : decode prog_5_method_7_code 114 = .ok (.aload_n 0, 1) := by decide +kernel
theorem d_5_7_115 : decode prog_5_method_7_code 115 = .ok (.iload_n 1, 1) := by decide +kernel
theorem d_5_7_116 : decode prog_5_method_7_code 116 = .ok (.iconst 1, 1) := by decide +kernel
theorem d_5_7_117 : decode prog_5_method_7_code 117 = .ok (.isub, 1) := by decide +kernel
theorem d_5_7_118 : decode prog_5_method_7_code 118 = .ok (.invokevirtual 49, 3) := by decide +kernel
theorem d_5_7_121 : decode prog_5_method_7_code 121 = .ok (.iconst 1, 1) := by decide +kernel
theorem d_5_7_122 : decode prog_5_method_7_code 122 = .ok (.iand, 1) := by decide +kernel
theorem d_5_7_123 : decode prog_5_method_7_code 123 = .ok (.iconst 1, 1) := by decide +kernel
theorem d_5_7_124 : decode prog_5_method_7_code 124 = .ok (.if_icmp .ne 7, 3) := by decide +kernel
theorem d_5_7_131 : decode prog_5_method_7_code 131 = .ok (.iconst 0, 1) := by decide +kernel
theorem d_5_7_68 : decode prog_5_method_7_code 68 = .ok (.iload_n 2, 1) := by decide +kernel
theorem d_5_7_69 : decode prog_5_method_7_code 69 = .ok (.iconst 1, 1) := by decide +kernel
theorem d_5_7_70 : decode prog_5_method_7_code 70 = .ok (.if_icmp .ne 16, 3) := by decide +kernel
theorem d_5_7_86 : decode prog_5_method_7_code 86 = .ok (.iconst 0, 1) := by decide +kernel
theorem d_5_7_87 : decode prog_5_method_7_code 87 = .ok (.ireturn, 1) := by decide +kernel
theorem d_5_7_73 : decode prog_5_method_7_code 73 = .ok (.iload_n 3, 1) := by decide +kernel
theorem d_5_7_74 : decode prog_5_method_7_code 74 = .ok (.ifCond .ne 8, 3) := by decide +kernel
theorem d_5_7_82 : decode prog_5_method_7_code 82 = .ok (.iconst 1, 1) := by decide +kernel
theorem d_5_7_83 : decode prog_5_method_7_code 83 = .ok (.goto 4, 3) := by decide +kernel
theorem d_5_7_77 : decode prog_5_method_7_code 77 = .ok (.iload 4, 2) := by decide +kernel
theorem d_5_7_79 : decode prog_5_method_7_code 79 = .ok (.ifCond .eq 7, 3) := by decide +kernel
theorem d_5_7_32 : decode prog_5_method_7_code 32 = .ok (.if_icmp .ge 31, 3) := by decide +kernel
theorem d_5_7_35 : decode prog_5_method_7_code 35 = .ok (.iload 4, 2) := by decide +kernel
theorem d_5_7_37 : decode prog_5_method_7_code 37 = .ok (.ifCond .ne 26, 3) := by decide +kernel
theorem d_5_7_40 : decode prog_5_method_7_code 40 = .ok (.aload_n 0, 1) := by decide +kernel
theorem d_5_7_41 : decode prog_5_method_7_code 41 = .ok (.getfield 9, 3) := by decide +kernel
theorem d_5_7_44 : decode prog_5_method_7_code 44 = .ok (.iload 5, 2) := by decide +kernel
theorem d_5_7_46 : decode prog_5_method_7_code 46 = .ok (.baload, 1) := by decide +kernel
theorem d_5_7_47 : decode prog_5_method_7_code 47 = .ok (.ifCond .eq 7, 3) := by decide +kernel
theorem d_5_7_54 : decode prog_5_method_7_code 54 = .ok (.iconst 0, 1) := by decide +kernel
theorem d_5_7_55 : decode prog_5_method_7_code 55 = .ok (.istore 4, 2) := by decide +kernel
theorem d_5_7_57 : decode prog_5_method_7_code 57 = .ok (.iinc 5 1, 3) := by decide +kernel
theorem d_5_7_60 : decode prog_5_method_7_code 60 = .ok (.goto (-34), 3) := by decide +kernel
theorem d_5_7_50 : decode prog_5_method_7_code 50 = .ok (.iconst 1, 1) := by decide +kernel
theorem d_5_7_51 : decode prog_5_method_7_code 51 = .ok (.goto 4, 3) := by decide +kernel
theorem d_5_7_7 : decode prog_5_method_7_code 7 = .ok (.ifCond .ge 7, 3) := by decide +kernel
theorem d_5_7_14 : decode prog_5_method_7_code 14 = .ok (.iconst 0, 1) := by decide +kernel
theorem d_5_7_10 : decode prog_5_method_7_code 10 = .ok (.iconst 1, 1) := by decide +kernel
theorem d_5_7_11 : decode prog_5_method_7_code 11 = .ok (.goto 4, 3) := by decide +kernel
def y_Dig_goesOutwards : MethodName := ⟨"NumberHouse$Digits", "goesOutwards", "(II)Z"⟩
theorem d_5_8_0 : decode prog_5_method_8_code 0 = .ok (.aload_n 0, 1) := by decide +kernel
theorem d_5_8_1 : decode prog_5_method_8_code 1 = .ok (.getfield 13, 3) := by decide +kernel
theorem d_5_8_4 : decode prog_5_method_8_code 4 = .ok (.iconst 1, 1) := by decide +kernel
theorem d_5_8_5 : decode prog_5_method_8_code 5 = .ok (.isub, 1) := by decide +kernel
theorem d_5_8_6 : decode prog_5_method_8_code 6 = .ok (.istore_n 2, 1) := by decide +kernel
theorem d_5_8_7 : decode prog_5_method_8_code 7 = .ok (.iload_n 2, 1) := by decide +kernel
theorem d_5_8_28 : decode prog_5_method_8_code 28 = .ok (.iload_n 2, 1) := by decide +kernel
theorem d_5_8_29 : decode prog_5_method_8_code 29 = .ok (.ifCond .lt 22, 3) := by decide +kernel
theorem d_5_8_51 : decode prog_5_method_8_code 51 = .ok (.aload_n 0, 1) := by decide +kernel
theorem d_5_8_52 : decode prog_5_method_8_code 52 = .ok (.dup, 1) := by decide +kernel
theorem d_5_8_53 : decode prog_5_method_8_code 53 = .ok (.getfield 33, 3) := by decide +kernel
theorem d_5_8_56 : decode prog_5_method_8_code 56 = .ok (.iload_n 1, 1) := by decide +kernel
theorem d_5_8_57 : decode prog_5_method_8_code 57 = .ok (.ifCond .le 7, 3) := by decide +kernel
theorem d_5_8_64 : decode prog_5_method_8_code 64 = .ok (.iconst 1, 1) := by decide +kernel
theorem d_5_8_65 : decode prog_5_method_8_code 65 = .ok (.iload_n 1, 1) := by decide +kernel
theorem d_5_8_66 : decode prog_5_method_8_code 66 = .ok (.isub, 1) := by decide +kernel
theorem d_5_8_67 : decode prog_5_method_8_code 67 = .ok (.iadd, 1) := by decide +kernel
theorem d_5_8_68 : decode prog_5_method_8_code 68 = .ok (.putfield 33, 3) := by decide +kernel
theorem d_5_8_71 : decode prog_5_method_8_code 71 = .ok (.aload_n 0, 1) := by decide +kernel
theorem d_5_8_72 : decode prog_5_method_8_code 72 = .ok (.getfield 9, 3) := by decide +kernel
theorem d_5_8_75 : decode prog_5_method_8_code 75 = .ok (.iconst 0, 1) := by decide +kernel
theorem d_5_8_76 : decode prog_5_method_8_code 76 = .ok (.iconst 1, 1) := by decide +kernel
theorem d_5_8_77 : decode prog_5_method_8_code 77 = .ok (.bastore, 1) := by decide +kernel
theorem d_5_8_78 : decode prog_5_method_8_code 78 = .ok (.aload_n 0, 1) := by decide +kernel
theorem d_5_8_79 : decode prog_5_method_8_code 79 = .ok (.iconst 1, 1) := by decide +kernel
theorem d_5_8_80 : decode prog_5_method_8_code 80 = .ok (.putfield 13, 3) := by decide +kernel
theorem d_5_8_83 : decode prog_5_method_8_code 83 = .ok (.return_, 1) := by decide +kernel
theorem d_5_8_60 : decode prog_5_method_8_code 60 = .ok (.iconst 1, 1) := by decide +kernel
theorem d_5_8_61 : decode prog_5_method_8_code 61 = .ok (.goto 6, 3) := by decide +kernel
theorem d_5_8_32 : decode prog_5_method_8_code 32 = .ok (.aload_n 0, 1) := by decide +kernel
theorem d_5_8_33 : decode prog_5_method_8_code 33 = .ok (.getfield 9, 3) := by decide +kernel
theorem d_5_8_36 : decode prog_5_method_8_code 36 = .ok (.iload_n 2, 1) := by decide +kernel
theorem d_5_8_37 : decode prog_5_method_8_code 37 = .ok (.dup2, 1) := by decide +kernel
theorem d_5_8_38 : decode prog_5_method_8_code 38 = .ok (.baload, 1) := by decide +kernel
theorem d_5_8_39 : decode prog_5_method_8_code 39 = .ok (.iconst 1, 1) := by decide +kernel
theorem d_5_8_40 : decode prog_5_method_8_code 40 = .ok (.iadd, 1) := by decide +kernel
theorem d_5_8_41 : decode prog_5_method_8_code 41 = .ok (.i2b, 1) := by decide +kernel
theorem d_5_8_42 : decode prog_5_method_8_code 42 = .ok (.bastore, 1) := by decide +kernel
theorem d_5_8_43 : decode prog_5_method_8_code 43 = .ok (.aload_n 0, 1) := by decide +kernel
theorem d_5_8_44 : decode prog_5_method_8_code 44 = .ok (.iload_n 2, 1) := by decide +kernel
theorem d_5_8_45 : decode prog_5_method_8_code 45 = .ok (.iconst 1, 1) := by decide +kernel
theorem d_5_8_46 : decode prog_5_method_8_code 46 = .ok (.iadd, 1) := by decide +kernel
theorem d_5_8_47 : decode prog_5_method_8_code 47 = .ok (.putfield 13, 3) := by decide +kernel
theorem d_5_8_50 : decode prog_5_method_8_code 50 = .ok (.return_, 1) := by decide +kernel
theorem d_5_8_8 : decode prog_5_method_8_code 8 = .ok (.ifCond .lt 20, 3) := by decide +kernel
theorem d_5_8_11 : decode prog_5_method_8_code 11 = .ok (.aload_n 0, 1) := by decide +kernel
theorem d_5_8_12 : decode prog_5_method_8_code 12 = .ok (.getfield 9, 3) := by decide +kernel
theorem d_5_8_15 : decode prog_5_method_8_code 15 = .ok (.iload_n 2, 1) := by decide +kernel
theorem d_5_8_16 : decode prog_5_method_8_code 16 = .ok (.baload, 1) := by decide +kernel
theorem d_5_8_17 : decode prog_5_method_8_code 17 = .ok (.bipush 9, 2) := by decide +kernel
theorem d_5_8_19 : decode prog_5_method_8_code 19 = .ok (.if_icmp .ne 9, 3) := by decide +kernel
theorem d_5_8_22 : decode prog_5_method_8_code 22 = .ok (.iinc 2 (-1), 3) := by decide +kernel
theorem d_5_8_25 : decode prog_5_method_8_code 25 = .ok (.goto (-18), 3) := by decide +kernel
def y_Dig_stepOutwards : MethodName := ⟨"NumberHouse$Digits", "stepOutwards", "(I)V"⟩
theorem d_5_6_0 : decode prog_5_method_6_code 0 = .ok (.iload_n 1, 1) := by decide +kernel
theorem d_5_6_1 : decode prog_5_method_6_code 1 = .ok (.aload_n 0, 1) := by decide +kernel
theorem d_5_6_2 : decode prog_5_method_6_code 2 = .ok (.getfield 13, 3) := by decide +kernel
theorem d_5_6_5 : decode prog_5_method_6_code 5 = .ok (.if_icmp .lt 4, 3) := by decide +kernel
theorem d_5_6_9 : decode prog_5_method_6_code 9 = .ok (.aload_n 0, 1) := by decide +kernel
theorem d_5_6_10 : decode prog_5_method_6_code 10 = .ok (.iload_n 1, 1) := by decide +kernel
theorem d_5_6_11 : decode prog_5_method_6_code 11 = .ok (.iload_n 2, 1) := by decide +kernel
theorem d_5_6_12 : decode prog_5_method_6_code 12 = .ok (.invokevirtual 36, 3) := by decide +kernel
set_option maxRecDepth 100000 in
theorem w_1659 : (Cond.code ({ cls := "NumberHouse$Digits", name := "goesOutwards", desc := "(II)Z" } : MethodName) prog_5_method_7_code (6 : Nat) (some .boolean)) ∈ q_tbl := q_of7 219 rfl (by decide +kernel)
set_option maxRecDepth 100000 in
theorem w_1656 : (Cond.methodLink "NumberHouse$Digits" (36 : Nat) ({ cls := "NumberHouse$Digits", name := "goesOutwards", desc := "(II)Z" } : MethodName)) ∈ q_tbl := q_of7 216 rfl (by decide +kernel)
set_option maxRecDepth 100000 in
theorem w_1658 : (Cond.instanceMethod ({ cls := "NumberHouse$Digits", name := "goesOutwards", desc := "(II)Z" } : MethodName)) ∈ q_tbl := q_of7 218 rfl (by decide +kernel)
theorem ws_42 : Cond.selects "NumberHouse$Digits" (⟨"NumberHouse$Digits", "goesOutwards", "(II)Z"⟩ : MethodName) (⟨"NumberHouse$Digits", "goesOutwards", "(II)Z"⟩ : MethodName) ∈ q_tbl := q_ofs 42 (by decide +kernel) (by decide +kernel)
theorem LV_Dig_36 : q_LV "NumberHouse$Digits" 36 y_Dig_goesOutwards prog_5_method_7_code 6 (some .boolean) 2 := ⟨w_1659, w_9, w_1656, w_1658, ws_42, ⟨by decide, by decide, by decide +kernel⟩⟩
theorem d_5_6_15 : decode prog_5_method_6_code 15 = .ok (.istore_n 3, 1) := by decide +kernel
theorem d_5_6_16 : decode prog_5_method_6_code 16 = .ok (.aload_n 0, 1) := by decide +kernel
theorem d_5_6_17 : decode prog_5_method_6_code 17 = .ok (.iload_n 1, 1) := by decide +kernel
theorem d_5_6_18 : decode prog_5_method_6_code 18 = .ok (.iconst 0, 1) := by decide +kernel
theorem d_5_6_19 : decode prog_5_method_6_code 19 = .ok (.invokestatic 40, 3) := by decide +kernel
theorem d_5_6_22 : decode prog_5_method_6_code 22 = .ok (.putfield 13, 3) := by decide +kernel
theorem d_5_6_25 : decode prog_5_method_6_code 25 = .ok (.iload_n 3, 1) := by decide +kernel
theorem d_5_6_26 : decode prog_5_method_6_code 26 = .ok (.ifCond .eq 8, 3) := by decide +kernel
theorem d_5_6_34 : decode prog_5_method_6_code 34 = .ok (.aload_n 0, 1) := by decide +kernel
theorem d_5_6_35 : decode prog_5_method_6_code 35 = .ok (.getfield 13, 3) := by decide +kernel
theorem d_5_6_38 : decode prog_5_method_6_code 38 = .ok (.ifCond .ne 8, 3) := by decide +kernel
theorem d_5_6_46 : decode prog_5_method_6_code 46 = .ok (.return_, 1) := by decide +kernel
theorem d_5_6_41 : decode prog_5_method_6_code 41 = .ok (.aload_n 0, 1) := by decide +kernel
theorem d_5_6_42 : decode prog_5_method_6_code 42 = .ok (.iconst 0, 1) := by decide +kernel
theorem d_5_6_43 : decode prog_5_method_6_code 43 = .ok (.putfield 33, 3) := by decide +kernel
theorem d_5_6_29 : decode prog_5_method_6_code 29 = .ok (.aload_n 0, 1) := by decide +kernel
theorem d_5_6_30 : decode prog_5_method_6_code 30 = .ok (.iload_n 1, 1) := by decide +kernel
theorem d_5_6_31 : decode prog_5_method_6_code 31 = .ok (.invokevirtual 46, 3) := by decide +kernel
set_option maxRecDepth 100000 in
theorem w_1663 : (Cond.code ({ cls := "NumberHouse$Digits", name := "stepOutwards", desc := "(I)V" } : MethodName) prog_5_method_8_code (3 : Nat) (none : Option ClassFile.FieldType)) ∈ q_tbl := q_of7 223 rfl (by decide +kernel)
set_option maxRecDepth 100000 in
theorem w_1660 : (Cond.methodLink "NumberHouse$Digits" (46 : Nat) ({ cls := "NumberHouse$Digits", name := "stepOutwards", desc := "(I)V" } : MethodName)) ∈ q_tbl := q_of7 220 rfl (by decide +kernel)
set_option maxRecDepth 100000 in
theorem w_1662 : (Cond.instanceMethod ({ cls := "NumberHouse$Digits", name := "stepOutwards", desc := "(I)V" } : MethodName)) ∈ q_tbl := q_of7 222 rfl (by decide +kernel)
theorem ws_43 : Cond.selects "NumberHouse$Digits" (⟨"NumberHouse$Digits", "stepOutwards", "(I)V"⟩ : MethodName) (⟨"NumberHouse$Digits", "stepOutwards", "(I)V"⟩ : MethodName) ∈ q_tbl := q_ofs 43 (by decide +kernel) (by decide +kernel)
theorem LV_Dig_46 : q_LV "NumberHouse$Digits" 46 y_Dig_stepOutwards prog_5_method_8_code 3 none 1 := ⟨w_1663, w_9, w_1660, w_1662, ws_43, ⟨by decide, by decide, by decide +kernel⟩⟩
theorem d_5_6_8 : decode prog_5_method_6_code 8 = .ok (.return_, 1) := by decide +kernel
def y_Dig_round : MethodName := ⟨"NumberHouse$Digits", "round", "(II)V"⟩
theorem d_5_9_0 : decode prog_5_method_9_code 0 = .ok (.aload_n 0, 1) := by decide +kernel
theorem d_5_9_1 : decode prog_5_method_9_code 1 = .ok (.getfield 33, 3) := by decide +kernel
theorem d_5_9_4 : decode prog_5_method_9_code 4 = .ok (.iconst 0, 1) := by decide +kernel
theorem d_5_9_5 : decode prog_5_method_9_code 5 = .ok (.invokestatic 40, 3) := by decide +kernel
theorem d_5_9_8 : decode prog_5_method_9_code 8 = .ok (.istore 5, 2) := by decide +kernel
theorem d_5_9_10 : decode prog_5_method_9_code 10 = .ok (.iload 5, 2) := by decide +kernel
theorem d_5_9_12 : decode prog_5_method_9_code 12 = .ok (.ifCond .lt 49, 3) := by decide +kernel
theorem d_5_9_61 : decode prog_5_method_9_code 61 = .ok (.iload_n 2, 1) := by decide +kernel
theorem d_5_9_76 : decode prog_5_method_9_code 76 = .ok (.iconst 1, 1) := by decide +kernel
theorem d_5_9_77 : decode prog_5_method_9_code 77 = .ok (.istore 5, 2) := by decide +kernel
theorem d_5_9_79 : decode prog_5_method_9_code 79 = .ok (.iload 5, 2) := by decide +kernel
theorem d_5_9_81 : decode prog_5_method_9_code 81 = .ok (.iload_n 2, 1) := by decide +kernel
theorem d_5_9_82 : decode prog_5_method_9_code 82 = .ok (.if_icmp .gt 27, 3) := by decide +kernel
theorem d_5_9_109 : decode prog_5_method_9_code 109 = .ok (.return_, 1) := by decide +kernel
theorem d_5_9_85 : decode prog_5_method_9_code 85 = .ok (.aload_n 1, 1) := by decide +kernel
theorem d_5_9_86 : decode prog_5_method_9_code 86 = .ok (.bipush 48, 2) := by decide +kernel
theorem d_5_9_88 : decode prog_5_method_9_code 88 = .ok (.aload_n 0, 1) := by decide +kernel
theorem d_5_9_89 : decode prog_5_method_9_code 89 = .ok (.aload_n 0, 1) := by decide +kernel
theorem d_5_9_90 : decode prog_5_method_9_code 90 = .ok (.getfield 33, 3) := by decide +kernel
theorem d_5_9_93 : decode prog_5_method_9_code 93 = .ok (.iload 5, 2) := by decide +kernel
theorem d_5_9_95 : decode prog_5_method_9_code 95 = .ok (.iadd, 1) := by decide +kernel
theorem d_5_9_96 : decode prog_5_method_9_code 96 = .ok (.invokevirtual 49, 3) := by decide +kernel
theorem d_5_9_99 : decode prog_5_method_9_code 99 = .ok (.iadd, 1) := by decide +kernel
theorem d_5_9_100 : decode prog_5_method_9_code 100 = .ok (.invokevirtual 52, 3) := by decide +kernel
set_option maxRecDepth 100000 in
theorem w_1573 : (Cond.methodLink "NumberHouse$Digits" (52 : Nat) ({ cls := "NumberHouse$Sheet", name := "add", desc := "(I)V" } : MethodName)) ∈ q_tbl := q_of7 133 rfl (by decide +kernel)
theorem LV_Dig_52 : q_LV "NumberHouse$Digits" 52 y_She_add prog_11_method_3_code 3 none 1 := ⟨w_564, w_2, w_1573, w_562, w_563, ⟨by decide, by decide, by decide +kernel⟩⟩
theorem d_5_9_103 : decode prog_5_method_9_code 103 = .ok (.iinc 5 1, 3) := by decide +kernel
theorem d_5_9_106 : decode prog_5_method_9_code 106 = .ok (.goto (-27), 3) := by decide +kernel
theorem d_5_9_70 : decode prog_5_method_9_code 70 = .ok (.aload_n 1, 1) := by decide +kernel
theorem d_5_9_71 : decode prog_5_method_9_code 71 = .ok (.bipush 46, 2) := by decide +kernel
theorem d_5_9_73 : decode prog_5_method_9_code 73 = .ok (.invokevirtual 52, 3) := by decide +kernel
theorem d_5_9_62 : decode prog_5_method_9_code 62 = .ok (.ifCond .gt 8, 3) := by decide +kernel
theorem d_5_9_65 : decode prog_5_method_9_code 65 = .ok (.iload 4, 2) := by decide +kernel
theorem d_5_9_67 : decode prog_5_method_9_code 67 = .ok (.ifCond .eq 9, 3) := by decide +kernel
theorem d_5_9_15 : decode prog_5_method_9_code 15 = .ok (.aload_n 1, 1) := by decide +kernel
theorem d_5_9_16 : decode prog_5_method_9_code 16 = .ok (.bipush 48, 2) := by decide +kernel
theorem d_5_9_18 : decode prog_5_method_9_code 18 = .ok (.aload_n 0, 1) := by decide +kernel
theorem d_5_9_19 : decode prog_5_method_9_code 19 = .ok (.aload_n 0, 1) := by decide +kernel
theorem d_5_9_20 : decode prog_5_method_9_code 20 = .ok (.getfield 33, 3) := by decide +kernel
theorem d_5_9_23 : decode prog_5_method_9_code 23 = .ok (.iload 5, 2) := by decide +kernel
theorem d_5_9_25 : decode prog_5_method_9_code 25 = .ok (.isub, 1) := by decide +kernel
theorem d_5_9_26 : decode prog_5_method_9_code 26 = .ok (.invokevirtual 49, 3) := by decide +kernel
theorem d_5_9_29 : decode prog_5_method_9_code 29 = .ok (.iadd, 1) := by decide +kernel
theorem d_5_9_30 : decode prog_5_method_9_code 30 = .ok (.invokevirtual 52, 3) := by decide +kernel
theorem d_5_9_33 : decode prog_5_method_9_code 33 = .ok (.iload_n 3, 1) := by decide +kernel
theorem d_5_9_34 : decode prog_5_method_9_code 34 = .ok (.ifCond .eq 21, 3) := by decide +kernel
theorem d_5_9_55 : decode prog_5_method_9_code 55 = .ok (.iinc 5 (-1), 3) := by decide +kernel
theorem d_5_9_58 : decode prog_5_method_9_code 58 = .ok (.goto (-48), 3) := by decide +kernel
theorem d_5_9_37 : decode prog_5_method_9_code 37 = .ok (.iload 5, 2) := by decide +kernel
theorem d_5_9_39 : decode prog_5_method_9_code 39 = .ok (.ifCond .le 16, 3) := by decide +kernel
theorem d_5_9_42 : decode prog_5_method_9_code 42 = .ok (.iload 5, 2) := by decide +kernel
theorem d_5_9_44 : decode prog_5_method_9_code 44 = .ok (.iconst 3, 1) := by decide +kernel
theorem d_5_9_45 : decode prog_5_method_9_code 45 = .ok (.irem, 1) := by decide +kernel
theorem d_5_9_46 : decode prog_5_method_9_code 46 = .ok (.ifCond .ne 9, 3) := by decide +kernel
theorem d_5_9_49 : decode prog_5_method_9_code 49 = .ok (.aload_n 1, 1) := by decide +kernel
theorem d_5_9_50 : decode prog_5_method_9_code 50 = .ok (.bipush 44, 2) := by decide +kernel
theorem d_5_9_52 : decode prog_5_method_9_code 52 = .ok (.invokevirtual 52, 3) := by decide +kernel
def y_Dig_writePlain : MethodName := ⟨"NumberHouse$Digits", "writePlain", "(LNumberHouse$Sheet;IZZ)V"⟩
theorem d_5_11_0 : decode prog_5_method_11_code 0 = .ok (.aload_n 1, 1) := by decide +kernel
theorem d_5_11_1 : decode prog_5_method_11_code 1 = .ok (.bipush 48, 2) := by decide +kernel
theorem d_5_11_3 : decode prog_5_method_11_code 3 = .ok (.aload_n 0, 1) := by decide +kernel
theorem d_5_11_4 : decode prog_5_method_11_code 4 = .ok (.iconst 0, 1) := by decide +kernel
theorem d_5_11_5 : decode prog_5_method_11_code 5 = .ok (.invokevirtual 49, 3) := by decide +kernel
theorem d_5_11_8 : decode prog_5_method_11_code 8 = .ok (.iadd, 1) := by decide +kernel
theorem d_5_11_9 : decode prog_5_method_11_code 9 = .ok (.invokevirtual 52, 3) := by decide +kernel
theorem d_5_11_12 : decode prog_5_method_11_code 12 = .ok (.iload_n 2, 1) := by decide +kernel
theorem d_5_11_13 : decode prog_5_method_11_code 13 = .ok (.iconst 1, 1) := by decide +kernel
theorem d_5_11_27 : decode prog_5_method_11_code 27 = .ok (.iconst 1, 1) := by decide +kernel
theorem d_5_11_28 : decode prog_5_method_11_code 28 = .ok (.istore 4, 2) := by decide +kernel
theorem d_5_11_30 : decode prog_5_method_11_code 30 = .ok (.iload 4, 2) := by decide +kernel
theorem d_5_11_32 : decode prog_5_method_11_code 32 = .ok (.iload_n 2, 1) := by decide +kernel
theorem d_5_11_33 : decode prog_5_method_11_code 33 = .ok (.if_icmp .ge 22, 3) := by decide +kernel
theorem d_5_11_55 : decode prog_5_method_11_code 55 = .ok (.return_, 1) := by decide +kernel
theorem d_5_11_36 : decode prog_5_method_11_code 36 = .ok (.aload_n 1, 1) := by decide +kernel
theorem d_5_11_37 : decode prog_5_method_11_code 37 = .ok (.bipush 48, 2) := by decide +kernel
theorem d_5_11_39 : decode prog_5_method_11_code 39 = .ok (.aload_n 0, 1) := by decide +kernel
theorem d_5_11_40 : decode prog_5_method_11_code 40 = .ok (.iload 4, 2) := by decide +kernel
theorem d_5_11_42 : decode prog_5_method_11_code 42 = .ok (.invokevirtual 49, 3) := by decide +kernel
theorem d_5_11_45 : decode prog_5_method_11_code 45 = .ok (.iadd, 1) := by decide +kernel
theorem d_5_11_46 : decode prog_5_method_11_code 46 = .ok (.invokevirtual 52, 3) := by decide +kernel
theorem d_5_11_49 : decode prog_5_method_11_code 49 = .ok (.iinc 4 1, 3) := by decide +kernel
theorem d_5_11_52 : decode prog_5_method_11_code 52 = .ok (.goto (-22), 3) := by decide +kernel
theorem d_5_11_21 : decode prog_5_method_11_code 21 = .ok (.aload_n 1, 1) := by decide +kernel
theorem d_5_11_22 : decode prog_5_method_11_code 22 = .ok (.bipush 46, 2) := by decide +kernel
theorem d_5_11_24 : decode prog_5_method_11_code 24 = .ok (.invokevirtual 52, 3) := by decide +kernel
theorem d_5_11_14 : decode prog_5_method_11_code 14 = .ok (.if_icmp .gt 7, 3) := by decide +kernel
theorem d_5_11_17 : decode prog_5_method_11_code 17 = .ok (.iload_n 3, 1) := by decide +kernel
theorem d_5_11_18 : decode prog_5_method_11_code 18 = .ok (.ifCond .eq 9, 3) := by decide +kernel
def y_Dig_writeHead : MethodName := ⟨"NumberHouse$Digits", "writeHead", "(LNumberHouse$Sheet;IZ)V"⟩
theorem d_5_10_0 : decode prog_5_method_10_code 0 = .ok (.aload_n 0, 1) := by decide +kernel
theorem d_5_10_1 : decode prog_5_method_10_code 1 = .ok (.aload_n 1, 1) := by decide +kernel
theorem d_5_10_2 : decode prog_5_method_10_code 2 = .ok (.iload_n 2, 1) := by decide +kernel
theorem d_5_10_3 : decode prog_5_method_10_code 3 = .ok (.iload_n 3, 1) := by decide +kernel
theorem d_5_10_4 : decode prog_5_method_10_code 4 = .ok (.invokevirtual 57, 3) := by decide +kernel
set_option maxRecDepth 100000 in
theorem w_1577 : (Cond.code ({ cls := "NumberHouse$Digits", name := "writeHead", desc := "(LNumberHouse$Sheet;IZ)V" } : MethodName) prog_5_method_11_code (5 : Nat) (none : Option ClassFile.FieldType)) ∈ q_tbl := q_of7 137 rfl (by decide +kernel)
set_option maxRecDepth 100000 in
theorem w_1668 : (Cond.methodLink "NumberHouse$Digits" (57 : Nat) ({ cls := "NumberHouse$Digits", name := "writeHead", desc := "(LNumberHouse$Sheet;IZ)V" } : MethodName)) ∈ q_tbl := q_of7 228 rfl (by decide +kernel)
set_option maxRecDepth 100000 in
theorem w_1575 : (Cond.instanceMethod ({ cls := "NumberHouse$Digits", name := "writeHead", desc := "(LNumberHouse$Sheet;IZ)V" } : MethodName)) ∈ q_tbl := q_of7 135 rfl (by decide +kernel)
set_option maxRecDepth 100000 in
theorem w_1576 : (Cond.selects "NumberHouse$Digits" ({ cls := "NumberHouse$Digits", name := "writeHead", desc := "(LNumberHouse$Sheet;IZ)V" } : MethodName) ({ cls := "NumberHouse$Digits", name := "writeHead", desc := "(LNumberHouse$Sheet;IZ)V" } : MethodName)) ∈ q_tbl := q_of7 136 rfl (by decide +kernel)
theorem LV_Dig_57 : q_LV "NumberHouse$Digits" 57 y_Dig_writeHead prog_5_method_11_code 5 none 3 := ⟨w_1577, w_9, w_1668, w_1575, w_1576, ⟨by decide, by decide, by decide +kernel⟩⟩
theorem d_5_10_7 : decode prog_5_method_10_code 7 = .ok (.aload_n 1, 1) := by decide +kernel
theorem d_5_10_8 : decode prog_5_method_10_code 8 = .ok (.bipush 101, 2) := by decide +kernel
theorem d_5_10_10 : decode prog_5_method_10_code 10 = .ok (.invokevirtual 52, 3) := by decide +kernel
theorem d_5_10_13 : decode prog_5_method_10_code 13 = .ok (.aload_n 1, 1) := by decide +kernel
theorem d_5_10_14 : decode prog_5_method_10_code 14 = .ok (.aload_n 0, 1) := by decide +kernel
theorem d_5_10_15 : decode prog_5_method_10_code 15 = .ok (.getfield 33, 3) := by decide +kernel
theorem d_5_10_18 : decode prog_5_method_10_code 18 = .ok (.ifCond .ge 8, 3) := by decide +kernel
theorem d_5_10_26 : decode prog_5_method_10_code 26 = .ok (.bipush 43, 2) := by decide +kernel
theorem d_5_10_28 : decode prog_5_method_10_code 28 = .ok (.invokevirtual 52, 3) := by decide +kernel
theorem d_5_10_31 : decode prog_5_method_10_code 31 = .ok (.aload_n 1, 1) := by decide +kernel
theorem d_5_10_32 : decode prog_5_method_10_code 32 = .ok (.aload_n 0, 1) := by decide +kernel
theorem d_5_10_33 : decode prog_5_method_10_code 33 = .ok (.getfield 33, 3) := by decide +kernel
theorem d_5_10_36 : decode prog_5_method_10_code 36 = .ok (.iconst 2, 1) := by decide +kernel
theorem d_5_10_37 : decode prog_5_method_10_code 37 = .ok (.invokevirtual 61, 3) := by decide +kernel
set_option maxRecDepth 100000 in
theorem w_1585 : (Cond.code ({ cls := "NumberHouse$Sheet", name := "addPower", desc := "(II)V" } : MethodName) prog_11_method_6_code (6 : Nat) (none : Option ClassFile.FieldType)) ∈ q_tbl := q_of7 145 rfl (by decide +kernel)
set_option maxRecDepth 100000 in
theorem w_1669 : (Cond.methodLink "NumberHouse$Digits" (61 : Nat) ({ cls := "NumberHouse$Sheet", name := "addPower", desc := "(II)V" } : MethodName)) ∈ q_tbl := q_of7 229 rfl (by decide +kernel)
set_option maxRecDepth 100000 in
theorem w_1583 : (Cond.instanceMethod ({ cls := "NumberHouse$Sheet", name := "addPower", desc := "(II)V" } : MethodName)) ∈ q_tbl := q_of7 143 rfl (by decide +kernel)
set_option maxRecDepth 100000 in
theorem w_1584 : (Cond.selects "NumberHouse$Sheet" ({ cls := "NumberHouse$Sheet", name := "addPower", desc := "(II)V" } : MethodName) ({ cls := "NumberHouse$Sheet", name := "addPower", desc := "(II)V" } : MethodName)) ∈ q_tbl := q_of7 144 rfl (by decide +kernel)
theorem LV_Dig_61 : q_LV "NumberHouse$Digits" 61 y_She_addPower prog_11_method_6_code 6 none 2 := ⟨w_1585, w_2, w_1669, w_1583, w_1584, ⟨by decide, by decide, by decide +kernel⟩⟩
theorem d_5_10_40 : decode prog_5_method_10_code 40 = .ok (.return_, 1) := by decide +kernel
theorem d_5_10_21 : decode prog_5_method_10_code 21 = .ok (.bipush 45, 2) := by decide +kernel
theorem d_5_10_23 : decode prog_5_method_10_code 23 = .ok (.goto 5, 3) := by decide +kernel
def y_Dig_writeScience : MethodName := ⟨"NumberHouse$Digits", "writeScience", "(LNumberHouse$Sheet;IZ)V"⟩
theorem d_5_12_0 : decode prog_5_method_12_code 0 = .ok (.iconst 0, 1) := by decide +kernel
theorem d_5_12_1 : decode prog_5_method_12_code 1 = .ok (.istore 4, 2) := by decide +kernel
theorem d_5_12_3 : decode prog_5_method_12_code 3 = .ok (.iload 4, 2) := by decide +kernel
theorem d_5_12_5 : decode prog_5_method_12_code 5 = .ok (.iload_n 2, 1) := by decide +kernel
theorem d_5_12_6 : decode prog_5_method_12_code 6 = .ok (.iload_n 3, 1) := by decide +kernel
theorem d_5_12_7 : decode prog_5_method_12_code 7 = .ok (.invokestatic 40, 3) := by decide +kernel
theorem d_5_12_10 : decode prog_5_method_12_code 10 = .ok (.if_icmp .ge 34, 3) := by decide +kernel
theorem d_5_12_44 : decode prog_5_method_12_code 44 = .ok (.return_, 1) := by decide +kernel
theorem d_5_12_13 : decode prog_5_method_12_code 13 = .ok (.iload 4, 2) := by decide +kernel
theorem d_5_12_15 : decode prog_5_method_12_code 15 = .ok (.iload_n 2, 1) := by decide +kernel
theorem d_5_12_16 : decode prog_5_method_12_code 16 = .ok (.if_icmp .ne 9, 3) := by decide +kernel
theorem d_5_12_25 : decode prog_5_method_12_code 25 = .ok (.aload_n 1, 1) := by decide +kernel
theorem d_5_12_26 : decode prog_5_method_12_code 26 = .ok (.bipush 48, 2) := by decide +kernel
theorem d_5_12_28 : decode prog_5_method_12_code 28 = .ok (.aload_n 0, 1) := by decide +kernel
theorem d_5_12_29 : decode prog_5_method_12_code 29 = .ok (.iload 4, 2) := by decide +kernel
theorem d_5_12_31 : decode prog_5_method_12_code 31 = .ok (.invokevirtual 49, 3) := by decide +kernel
theorem d_5_12_34 : decode prog_5_method_12_code 34 = .ok (.iadd, 1) := by decide +kernel
theorem d_5_12_35 : decode prog_5_method_12_code 35 = .ok (.invokevirtual 52, 3) := by decide +kernel
theorem d_5_12_38 : decode prog_5_method_12_code 38 = .ok (.iinc 4 1, 3) := by decide +kernel
theorem d_5_12_41 : decode prog_5_method_12_code 41 = .ok (.goto (-38), 3) := by decide +kernel
theorem d_5_12_19 : decode prog_5_method_12_code 19 = .ok (.aload_n 1, 1) := by decide +kernel
theorem d_5_12_20 : decode prog_5_method_12_code 20 = .ok (.bipush 46, 2) := by decide +kernel
theorem d_5_12_22 : decode prog_5_method_12_code 22 = .ok (.invokevirtual 52, 3) := by decide +kernel
def y_Dig_writeSplit : MethodName := ⟨"NumberHouse$Digits", "writeSplit", "(LNumberHouse$Sheet;II)V"⟩
