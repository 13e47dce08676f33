/-! the world: what may stand at each of its places -/
def k_Dec (q : Nat → Nat) (k : Nat) : q_Ok := fun E => ∃ y1 y2 : Int32, E = .inr (3, [.ref (q (k + 1)), .int y1, .int y2]) ∧ (-10000 ≤ y1.toInt ∧ y1.toInt ≤ 10000) ∧ (1 ≤ y2.toInt ∧ y2.toInt ≤ 1000)
def k_Sht (q : Nat → Nat) (k : Nat) (R K : Int32) : q_Ok := fun E => ∃ y1 : Int32, E = .inr (1, [.ref (q (k + 1)), .int R, .int y1]) ∧ (0 ≤ y1.toInt ∧ y1.toInt ≤ K.toInt)
def k_Flo (q : Nat → Nat) (a b c : Int32) : q_Ok := fun E => ∃ (y1 : Int64) (y2 y3 : Int32), E = .inr (6, [.int a, .int b, .int c, .long y1, .int y2, .ref (q 9), .int y3])
def q_isShe (sh : List q_Ok) (g : Nat → ClassId) (q : Nat → Nat) (k : Nat) (R N K : Int32) : Prop := sh[k]? = some (k_Sht q k R K) ∧ sh[k + 1]? = some (k_al (g 1) N.toNatClampNeg) ∧ (0 ≤ R.toInt ∧ R.toInt ≤ 8 * N.toInt ∧ 0 ≤ N.toInt ∧ N.toInt ≤ 1376 ∧ 64 ≤ R.toInt ∧ 64 ≤ K.toInt ∧ K.toInt ≤ 1000000) ∧ (k = 1 ∨ k = 3 ∨ k = 45 ∨ (48 ≤ k ∧ k ≤ 64))
def q_isDec (sh : List q_Ok) (g : Nat → ClassId) (q : Nat → Nat) (k : Nat) (R : Int32) : Prop := sh[k]? = some (k_Dec q k) ∧ q_isBig sh g q (k + 1) R
def q_isFlo (sh : List q_Ok) (q : Nat → Nat) (k : Nat) (a b c : Int32) : Prop := sh[k]? = some (k_Flo q a b c) ∧ (23 ≤ a.toInt ∧ a.toInt ≤ 52) ∧ (150 ≤ b.toInt ∧ b.toInt ≤ 1075) ∧ (255 ≤ c.toInt ∧ c.toInt ≤ 2047) ∧ (k = 34 ∨ k = 35)
def n_fw (q : Nat → Nat) : Nat → Option Nat := fun j => if j < 10 then some (q (66 + 5 * j)) else none
def n_fd (q : Nat → Nat) : Nat → Option Nat := fun j => if j < 10 then some (q (68 + 5 * j)) else none
def n_ft (q : Nat → Nat) : Nat → Option Nat := fun j => if j < 9 then some (q (48 + 2 * j)) else none
theorem n_fwv {q : Nat → Nat} {j : Nat} (h : j < 10) : n_fw q j = some (q (66 + 5 * j)) := if_pos h
theorem n_fdv {q : Nat → Nat} {j : Nat} (h : j < 10) : n_fd q j = some (q (68 + 5 * j)) := if_pos h
theorem n_ftv {q : Nat → Nat} {j : Nat} (h : j < 9) : n_ft q j = some (q (48 + 2 * j)) := if_pos h
def k_0 (q : Nat → Nat) : q_Ok := fun E => E = .inr (0, [.ref (q 1), .ref (q 3), .ref (q 5), .ref (q 6), .ref (q 7), .ref (q 8), .ref (q 9), .ref (q 30), .ref (q 34), .ref (q 35), .ref (q 36), .ref (q 38), .ref (q 39), .ref (q 40)])
def k_9 (q : Nat → Nat) : q_Ok := fun E => E = .inr (4, [.ref (q 10), .ref (q 12), .ref (q 14), .ref (q 16), .ref (q 18), .ref (q 20), .ref (q 22), .ref (q 24), .ref (q 26), .ref (q 28)])
def k_30 (q : Nat → Nat) : q_Ok := fun E => ∃ (y0 : Int64) (y1 : Int32), E = .inr (5, [.ref (q 31), .long y0, .ref (q 9), .int y1]) ∧ (0 ≤ y1.toInt ∧ y1.toInt ≤ 1)
def k_36 (q : Nat → Nat) : q_Ok := fun E => ∃ (y0 : Int32) (y1 : Int32), E = .inr (7, [.int y0, .int y1, .ref (q 37)]) ∧ (0 ≤ y0.toInt ∧ y0.toInt ≤ 1026) ∧ (-1000000 ≤ y1.toInt ∧ y1.toInt ≤ 1000000)
def k_38 (q : Nat → Nat) : q_Ok := fun E => ∃ (y0 : Int64) (y1 : Int64) (y2 : Int32) (y3 : Int32) (y4 : Int32) (y5 : Int32) (y6 : Int32) (y7 : Int32) (y8 : Int32) (y9 : Int64), E = .inr (8, [.long y0, .long y1, .ref (q 1), .ref (q 9), .int y2, .int y3, .int y4, .int y5, .int y6, .int y7, .int y8, .long y9]) ∧ (0 ≤ y4.toInt ∧ y4.toInt ≤ 1) ∧ (0 ≤ y8.toInt ∧ y8.toInt ≤ 1)
def k_39 (q : Nat → Nat) : q_Ok := fun E => E = .inr (9, [.ref (q 3), .ref (q 9), .ref (q 36)])
def k_40 (q : Nat → Nat) : q_Ok := fun E => ∃ (y0 : Int32) (y1 : Int32) (y2 : Int32) (y3 : Int32), E = .inr (11, [.int y0, .ref (q 41), .ref (q 42), .ref (q 43), .ref (q 44), .ref (q 1), .ref (q 47), .ref (q 36), .ref (q 45), .int y1, .int y2, .int y3]) ∧ (0 ≤ y0.toInt ∧ y0.toInt ≤ 9) ∧ (-1 ≤ y1.toInt ∧ y1.toInt ≤ 1000000) ∧ (-1 ≤ y3.toInt ∧ y3.toInt ≤ 8)
def k_47 (q : Nat → Nat) : q_Ok := fun E => ∃ (y0 : Int32) (y1 : Int32) (y2 : Int32) (y3 : Int32) (y4 : Int32) (y5 : Int32) (y6 : Int32), E = .inr (10, [.int y0, .int y1, .int y2, .int y3, .int y4, .int y5, .ref (q 1), .int y6]) ∧ (-1 ≤ y2.toInt ∧ y2.toInt ≤ 9999) ∧ (-1 ≤ y3.toInt ∧ y3.toInt ≤ 9999) ∧ (0 ≤ y6.toInt ∧ y6.toInt ≤ 1)
def nsh (g : Nat → ClassId) (q : Nat → Nat) : List q_Ok := [k_0 q, k_Sht q 1 4100 4100, k_al (g 1) (513 : Int32).toNatClampNeg, k_Sht q 3 11008 1000000, k_al (g 1) (1376 : Int32).toNatClampNeg, k_fix (.inl (g 4, 10, .inr (.inr (.inr (.inr (n_fw q)))))), k_fix (.inl (g 5, 10, .inr (.inr (.inr (.inr (n_fd q)))))), k_al (g 1) 10, k_al (g 1) 10, k_9 q, k_Big q 10 220, k_ai (g 0) (220 : Int32).toNatClampNeg (-2147483648) 2147483647, k_Big q 12 220, k_ai (g 0) (220 : Int32).toNatClampNeg (-2147483648) 2147483647, k_Big q 14 220, k_ai (g 0) (220 : Int32).toNatClampNeg (-2147483648) 2147483647, k_Big q 16 220, k_ai (g 0) (220 : Int32).toNatClampNeg (-2147483648) 2147483647, k_Big q 18 220, k_ai (g 0) (220 : Int32).toNatClampNeg (-2147483648) 2147483647, k_Big q 20 220, k_ai (g 0) (220 : Int32).toNatClampNeg (-2147483648) 2147483647, k_Big q 22 220, k_ai (g 0) (220 : Int32).toNatClampNeg (-2147483648) 2147483647, k_Big q 24 220, k_ai (g 0) (220 : Int32).toNatClampNeg (-2147483648) 2147483647, k_Big q 26 220, k_ai (g 0) (220 : Int32).toNatClampNeg (-2147483648) 2147483647, k_Big q 28 220, k_ai (g 0) (220 : Int32).toNatClampNeg (-2147483648) 2147483647, k_30 q, k_Dec q 31, k_Big q 32 3, k_ai (g 0) (3 : Int32).toNatClampNeg (-2147483648) 2147483647, k_Flo q 52 1075 2047, k_Flo q 23 150 255, k_36 q, k_ai (g 2) 1026 (-2147483648) 2147483647, k_38 q, k_39 q, k_40 q, k_ai (g 0) 9 (-2147483648) 2147483647, k_al (g 1) 9, k_ai (g 0) 9 (-10000) 10000, k_fix (.inl (g 6, 9, .inr (.inr (.inr (.inr (n_ft q)))))), k_Sht q 45 4104 1000000, k_al (g 1) (513 : Int32).toNatClampNeg, k_47 q, k_Sht q 48 64 64, k_al (g 1) (8 : Int32).toNatClampNeg, k_Sht q 50 64 64, k_al (g 1) (8 : Int32).toNatClampNeg, k_Sht q 52 64 64, k_al (g 1) (8 : Int32).toNatClampNeg, k_Sht q 54 64 64, k_al (g 1) (8 : Int32).toNatClampNeg, k_Sht q 56 64 64, k_al (g 1) (8 : Int32).toNatClampNeg, k_Sht q 58 64 64, k_al (g 1) (8 : Int32).toNatClampNeg, k_Sht q 60 64 64, k_al (g 1) (8 : Int32).toNatClampNeg, k_Sht q 62 64 64, k_al (g 1) (8 : Int32).toNatClampNeg, k_Sht q 64 64 64, k_al (g 1) (8 : Int32).toNatClampNeg, k_Big q 66 68, k_ai (g 0) (68 : Int32).toNatClampNeg (-2147483648) 2147483647, k_Dec q 68, k_Big q 69 108, k_ai (g 0) (108 : Int32).toNatClampNeg (-2147483648) 2147483647, k_Big q 71 68, k_ai (g 0) (68 : Int32).toNatClampNeg (-2147483648) 2147483647, k_Dec q 73, k_Big q 74 108, k_ai (g 0) (108 : Int32).toNatClampNeg (-2147483648) 2147483647, k_Big q 76 68, k_ai (g 0) (68 : Int32).toNatClampNeg (-2147483648) 2147483647, k_Dec q 78, k_Big q 79 108, k_ai (g 0) (108 : Int32).toNatClampNeg (-2147483648) 2147483647, k_Big q 81 68, k_ai (g 0) (68 : Int32).toNatClampNeg (-2147483648) 2147483647, k_Dec q 83, k_Big q 84 108, k_ai (g 0) (108 : Int32).toNatClampNeg (-2147483648) 2147483647, k_Big q 86 68, k_ai (g 0) (68 : Int32).toNatClampNeg (-2147483648) 2147483647, k_Dec q 88, k_Big q 89 108, k_ai (g 0) (108 : Int32).toNatClampNeg (-2147483648) 2147483647, k_Big q 91 68, k_ai (g 0) (68 : Int32).toNatClampNeg (-2147483648) 2147483647, k_Dec q 93, k_Big q 94 108, k_ai (g 0) (108 : Int32).toNatClampNeg (-2147483648) 2147483647, k_Big q 96 68, k_ai (g 0) (68 : Int32).toNatClampNeg (-2147483648) 2147483647, k_Dec q 98, k_Big q 99 108, k_ai (g 0) (108 : Int32).toNatClampNeg (-2147483648) 2147483647, k_Big q 101 68, k_ai (g 0) (68 : Int32).toNatClampNeg (-2147483648) 2147483647, k_Dec q 103, k_Big q 104 108, k_ai (g 0) (108 : Int32).toNatClampNeg (-2147483648) 2147483647, k_Big q 106 68, k_ai (g 0) (68 : Int32).toNatClampNeg (-2147483648) 2147483647, k_Dec q 108, k_Big q 109 108, k_ai (g 0) (108 : Int32).toNatClampNeg (-2147483648) 2147483647, k_Big q 111 68, k_ai (g 0) (68 : Int32).toNatClampNeg (-2147483648) 2147483647, k_Dec q 113, k_Big q 114 108, k_ai (g 0) (108 : Int32).toNatClampNeg (-2147483648) 2147483647]
theorem n_s0 (g : Nat → ClassId) (q : Nat → Nat) : (nsh g q)[0]? = some (k_0 q) := rfl
theorem n_s1 (g : Nat → ClassId) (q : Nat → Nat) : (nsh g q)[1]? = some (k_Sht q 1 4100 4100) := rfl
theorem n_s2 (g : Nat → ClassId) (q : Nat → Nat) : (nsh g q)[2]? = some (k_al (g 1) (513 : Int32).toNatClampNeg) := rfl
theorem n_s3 (g : Nat → ClassId) (q : Nat → Nat) : (nsh g q)[3]? = some (k_Sht q 3 11008 1000000) := rfl
theorem n_s4 (g : Nat → ClassId) (q : Nat → Nat) : (nsh g q)[4]? = some (k_al (g 1) (1376 : Int32).toNatClampNeg) := rfl
theorem n_s5 (g : Nat → ClassId) (q : Nat → Nat) : (nsh g q)[5]? = some (k_fix (.inl (g 4, 10, .inr (.inr (.inr (.inr (n_fw q))))))) := rfl
theorem n_s6 (g : Nat → ClassId) (q : Nat → Nat) : (nsh g q)[6]? = some (k_fix (.inl (g 5, 10, .inr (.inr (.inr (.inr (n_fd q))))))) := rfl
theorem n_s7 (g : Nat → ClassId) (q : Nat → Nat) : (nsh g q)[7]? = some (k_al (g 1) 10) := rfl
theorem n_s8 (g : Nat → ClassId) (q : Nat → Nat) : (nsh g q)[8]? = some (k_al (g 1) 10) := rfl
theorem n_s9 (g : Nat → ClassId) (q : Nat → Nat) : (nsh g q)[9]? = some (k_9 q) := rfl
theorem n_s10 (g : Nat → ClassId) (q : Nat → Nat) : (nsh g q)[10]? = some (k_Big q 10 220) := rfl
theorem n_s11 (g : Nat → ClassId) (q : Nat → Nat) : (nsh g q)[11]? = some (k_ai (g 0) (220 : Int32).toNatClampNeg (-2147483648) 2147483647) := rfl
theorem n_s12 (g : Nat → ClassId) (q : Nat → Nat) : (nsh g q)[12]? = some (k_Big q 12 220) := rfl
theorem n_s13 (g : Nat → ClassId) (q : Nat → Nat) : (nsh g q)[13]? = some (k_ai (g 0) (220 : Int32).toNatClampNeg (-2147483648) 2147483647) := rfl
theorem n_s14 (g : Nat → ClassId) (q : Nat → Nat) : (nsh g q)[14]? = some (k_Big q 14 220) := rfl
theorem n_s15 (g : Nat → ClassId) (q : Nat → Nat) : (nsh g q)[15]? = some (k_ai (g 0) (220 : Int32).toNatClampNeg (-2147483648) 2147483647) := rfl
theorem n_s16 (g : Nat → ClassId) (q : Nat → Nat) : (nsh g q)[16]? = some (k_Big q 16 220) := rfl
theorem n_s17 (g : Nat → ClassId) (q : Nat → Nat) : (nsh g q)[17]? = some (k_ai (g 0) (220 : Int32).toNatClampNeg (-2147483648) 2147483647) := rfl
theorem n_s18 (g : Nat → ClassId) (q : Nat → Nat) : (nsh g q)[18]? = some (k_Big q 18 220) := rfl
theorem n_s19 (g : Nat → ClassId) (q : Nat → Nat) : (nsh g q)[19]? = some (k_ai (g 0) (220 : Int32).toNatClampNeg (-2147483648) 2147483647) := rfl
theorem n_s20 (g : Nat → ClassId) (q : Nat → Nat) : (nsh g q)[20]? = some (k_Big q 20 220) := rfl
theorem n_s21 (g : Nat → ClassId) (q : Nat → Nat) : (nsh g q)[21]? = some (k_ai (g 0) (220 : Int32).toNatClampNeg (-2147483648) 2147483647) := rfl
theorem n_s22 (g : Nat → ClassId) (q : Nat → Nat) : (nsh g q)[22]? = some (k_Big q 22 220) := rfl
theorem n_s23 (g : Nat → ClassId) (q : Nat → Nat) : (nsh g q)[23]? = some (k_ai (g 0) (220 : Int32).toNatClampNeg (-2147483648) 2147483647) := rfl
theorem n_s24 (g : Nat → ClassId) (q : Nat → Nat) : (nsh g q)[24]? = some (k_Big q 24 220) := rfl
theorem n_s25 (g : Nat → ClassId) (q : Nat → Nat) : (nsh g q)[25]? = some (k_ai (g 0) (220 : Int32).toNatClampNeg (-2147483648) 2147483647) := rfl
theorem n_s26 (g : Nat → ClassId) (q : Nat → Nat) : (nsh g q)[26]? = some (k_Big q 26 220) := rfl
theorem n_s27 (g : Nat → ClassId) (q : Nat → Nat) : (nsh g q)[27]? = some (k_ai (g 0) (220 : Int32).toNatClampNeg (-2147483648) 2147483647) := rfl
theorem n_s28 (g : Nat → ClassId) (q : Nat → Nat) : (nsh g q)[28]? = some (k_Big q 28 220) := rfl
theorem n_s29 (g : Nat → ClassId) (q : Nat → Nat) : (nsh g q)[29]? = some (k_ai (g 0) (220 : Int32).toNatClampNeg (-2147483648) 2147483647) := rfl
theorem n_s30 (g : Nat → ClassId) (q : Nat → Nat) : (nsh g q)[30]? = some (k_30 q) := rfl
theorem n_s31 (g : Nat → ClassId) (q : Nat → Nat) : (nsh g q)[31]? = some (k_Dec q 31) := rfl
theorem n_s32 (g : Nat → ClassId) (q : Nat → Nat) : (nsh g q)[32]? = some (k_Big q 32 3) := rfl
theorem n_s33 (g : Nat → ClassId) (q : Nat → Nat) : (nsh g q)[33]? = some (k_ai (g 0) (3 : Int32).toNatClampNeg (-2147483648) 2147483647) := rfl
theorem n_s34 (g : Nat → ClassId) (q : Nat → Nat) : (nsh g q)[34]? = some (k_Flo q 52 1075 2047) := rfl
theorem n_s35 (g : Nat → ClassId) (q : Nat → Nat) : (nsh g q)[35]? = some (k_Flo q 23 150 255) := rfl
theorem n_s36 (g : Nat → ClassId) (q : Nat → Nat) : (nsh g q)[36]? = some (k_36 q) := rfl
theorem n_s37 (g : Nat → ClassId) (q : Nat → Nat) : (nsh g q)[37]? = some (k_ai (g 2) 1026 (-2147483648) 2147483647) := rfl
theorem n_s38 (g : Nat → ClassId) (q : Nat → Nat) : (nsh g q)[38]? = some (k_38 q) := rfl
theorem n_s39 (g : Nat → ClassId) (q : Nat → Nat) : (nsh g q)[39]? = some (k_39 q) := rfl
theorem n_s40 (g : Nat → ClassId) (q : Nat → Nat) : (nsh g q)[40]? = some (k_40 q) := rfl
theorem n_s41 (g : Nat → ClassId) (q : Nat → Nat) : (nsh g q)[41]? = some (k_ai (g 0) 9 (-2147483648) 2147483647) := rfl
theorem n_s42 (g : Nat → ClassId) (q : Nat → Nat) : (nsh g q)[42]? = some (k_al (g 1) 9) := rfl
theorem n_s43 (g : Nat → ClassId) (q : Nat → Nat) : (nsh g q)[43]? = some (k_ai (g 0) 9 (-10000) 10000) := rfl
theorem n_s44 (g : Nat → ClassId) (q : Nat → Nat) : (nsh g q)[44]? = some (k_fix (.inl (g 6, 9, .inr (.inr (.inr (.inr (n_ft q))))))) := rfl
theorem n_s45 (g : Nat → ClassId) (q : Nat → Nat) : (nsh g q)[45]? = some (k_Sht q 45 4104 1000000) := rfl
theorem n_s46 (g : Nat → ClassId) (q : Nat → Nat) : (nsh g q)[46]? = some (k_al (g 1) (513 : Int32).toNatClampNeg) := rfl
theorem n_s47 (g : Nat → ClassId) (q : Nat → Nat) : (nsh g q)[47]? = some (k_47 q) := rfl
theorem n_s48 (g : Nat → ClassId) (q : Nat → Nat) : (nsh g q)[48]? = some (k_Sht q 48 64 64) := rfl
theorem n_s49 (g : Nat → ClassId) (q : Nat → Nat) : (nsh g q)[49]? = some (k_al (g 1) (8 : Int32).toNatClampNeg) := rfl
theorem n_s50 (g : Nat → ClassId) (q : Nat → Nat) : (nsh g q)[50]? = some (k_Sht q 50 64 64) := rfl
theorem n_s51 (g : Nat → ClassId) (q : Nat → Nat) : (nsh g q)[51]? = some (k_al (g 1) (8 : Int32).toNatClampNeg) := rfl
theorem n_s52 (g : Nat → ClassId) (q : Nat → Nat) : (nsh g q)[52]? = some (k_Sht q 52 64 64) := rfl
theorem n_s53 (g : Nat → ClassId) (q : Nat → Nat) : (nsh g q)[53]? = some (k_al (g 1) (8 : Int32).toNatClampNeg) := rfl
theorem n_s54 (g : Nat → ClassId) (q : Nat → Nat) : (nsh g q)[54]? = some (k_Sht q 54 64 64) := rfl
theorem n_s55 (g : Nat → ClassId) (q : Nat → Nat) : (nsh g q)[55]? = some (k_al (g 1) (8 : Int32).toNatClampNeg) := rfl
theorem n_s56 (g : Nat → ClassId) (q : Nat → Nat) : (nsh g q)[56]? = some (k_Sht q 56 64 64) := rfl
theorem n_s57 (g : Nat → ClassId) (q : Nat → Nat) : (nsh g q)[57]? = some (k_al (g 1) (8 : Int32).toNatClampNeg) := rfl
theorem n_s58 (g : Nat → ClassId) (q : Nat → Nat) : (nsh g q)[58]? = some (k_Sht q 58 64 64) := rfl
theorem n_s59 (g : Nat → ClassId) (q : Nat → Nat) : (nsh g q)[59]? = some (k_al (g 1) (8 : Int32).toNatClampNeg) := rfl
theorem n_s60 (g : Nat → ClassId) (q : Nat → Nat) : (nsh g q)[60]? = some (k_Sht q 60 64 64) := rfl
theorem n_s61 (g : Nat → ClassId) (q : Nat → Nat) : (nsh g q)[61]? = some (k_al (g 1) (8 : Int32).toNatClampNeg) := rfl
theorem n_s62 (g : Nat → ClassId) (q : Nat → Nat) : (nsh g q)[62]? = some (k_Sht q 62 64 64) := rfl
theorem n_s63 (g : Nat → ClassId) (q : Nat → Nat) : (nsh g q)[63]? = some (k_al (g 1) (8 : Int32).toNatClampNeg) := rfl
theorem n_s64 (g : Nat → ClassId) (q : Nat → Nat) : (nsh g q)[64]? = some (k_Sht q 64 64 64) := rfl
theorem n_s65 (g : Nat → ClassId) (q : Nat → Nat) : (nsh g q)[65]? = some (k_al (g 1) (8 : Int32).toNatClampNeg) := rfl
theorem n_s66 (g : Nat → ClassId) (q : Nat → Nat) : (nsh g q)[66]? = some (k_Big q 66 68) := rfl
theorem n_s67 (g : Nat → ClassId) (q : Nat → Nat) : (nsh g q)[67]? = some (k_ai (g 0) (68 : Int32).toNatClampNeg (-2147483648) 2147483647) := rfl
theorem n_s68 (g : Nat → ClassId) (q : Nat → Nat) : (nsh g q)[68]? = some (k_Dec q 68) := rfl
theorem n_s69 (g : Nat → ClassId) (q : Nat → Nat) : (nsh g q)[69]? = some (k_Big q 69 108) := rfl
theorem n_s70 (g : Nat → ClassId) (q : Nat → Nat) : (nsh g q)[70]? = some (k_ai (g 0) (108 : Int32).toNatClampNeg (-2147483648) 2147483647) := rfl
theorem n_s71 (g : Nat → ClassId) (q : Nat → Nat) : (nsh g q)[71]? = some (k_Big q 71 68) := rfl
theorem n_s72 (g : Nat → ClassId) (q : Nat → Nat) : (nsh g q)[72]? = some (k_ai (g 0) (68 : Int32).toNatClampNeg (-2147483648) 2147483647) := rfl
theorem n_s73 (g : Nat → ClassId) (q : Nat → Nat) : (nsh g q)[73]? = some (k_Dec q 73) := rfl
theorem n_s74 (g : Nat → ClassId) (q : Nat → Nat) : (nsh g q)[74]? = some (k_Big q 74 108) := rfl
theorem n_s75 (g : Nat → ClassId) (q : Nat → Nat) : (nsh g q)[75]? = some (k_ai (g 0) (108 : Int32).toNatClampNeg (-2147483648) 2147483647) := rfl
theorem n_s76 (g : Nat → ClassId) (q : Nat → Nat) : (nsh g q)[76]? = some (k_Big q 76 68) := rfl
theorem n_s77 (g : Nat → ClassId) (q : Nat → Nat) : (nsh g q)[77]? = some (k_ai (g 0) (68 : Int32).toNatClampNeg (-2147483648) 2147483647) := rfl
theorem n_s78 (g : Nat → ClassId) (q : Nat → Nat) : (nsh g q)[78]? = some (k_Dec q 78) := rfl
theorem n_s79 (g : Nat → ClassId) (q : Nat → Nat) : (nsh g q)[79]? = some (k_Big q 79 108) := rfl
theorem n_s80 (g : Nat → ClassId) (q : Nat → Nat) : (nsh g q)[80]? = some (k_ai (g 0) (108 : Int32).toNatClampNeg (-2147483648) 2147483647) := rfl
theorem n_s81 (g : Nat → ClassId) (q : Nat → Nat) : (nsh g q)[81]? = some (k_Big q 81 68) := rfl
theorem n_s82 (g : Nat → ClassId) (q : Nat → Nat) : (nsh g q)[82]? = some (k_ai (g 0) (68 : Int32).toNatClampNeg (-2147483648) 2147483647) := rfl
theorem n_s83 (g : Nat → ClassId) (q : Nat → Nat) : (nsh g q)[83]? = some (k_Dec q 83) := rfl
theorem n_s84 (g : Nat → ClassId) (q : Nat → Nat) : (nsh g q)[84]? = some (k_Big q 84 108) := rfl
theorem n_s85 (g : Nat → ClassId) (q : Nat → Nat) : (nsh g q)[85]? = some (k_ai (g 0) (108 : Int32).toNatClampNeg (-2147483648) 2147483647) := rfl
theorem n_s86 (g : Nat → ClassId) (q : Nat → Nat) : (nsh g q)[86]? = some (k_Big q 86 68) := rfl
theorem n_s87 (g : Nat → ClassId) (q : Nat → Nat) : (nsh g q)[87]? = some (k_ai (g 0) (68 : Int32).toNatClampNeg (-2147483648) 2147483647) := rfl
theorem n_s88 (g : Nat → ClassId) (q : Nat → Nat) : (nsh g q)[88]? = some (k_Dec q 88) := rfl
theorem n_s89 (g : Nat → ClassId) (q : Nat → Nat) : (nsh g q)[89]? = some (k_Big q 89 108) := rfl
theorem n_s90 (g : Nat → ClassId) (q : Nat → Nat) : (nsh g q)[90]? = some (k_ai (g 0) (108 : Int32).toNatClampNeg (-2147483648) 2147483647) := rfl
theorem n_s91 (g : Nat → ClassId) (q : Nat → Nat) : (nsh g q)[91]? = some (k_Big q 91 68) := rfl
theorem n_s92 (g : Nat → ClassId) (q : Nat → Nat) : (nsh g q)[92]? = some (k_ai (g 0) (68 : Int32).toNatClampNeg (-2147483648) 2147483647) := rfl
theorem n_s93 (g : Nat → ClassId) (q : Nat → Nat) : (nsh g q)[93]? = some (k_Dec q 93) := rfl
theorem n_s94 (g : Nat → ClassId) (q : Nat → Nat) : (nsh g q)[94]? = some (k_Big q 94 108) := rfl
theorem n_s95 (g : Nat → ClassId) (q : Nat → Nat) : (nsh g q)[95]? = some (k_ai (g 0) (108 : Int32).toNatClampNeg (-2147483648) 2147483647) := rfl
theorem n_s96 (g : Nat → ClassId) (q : Nat → Nat) : (nsh g q)[96]? = some (k_Big q 96 68) := rfl
theorem n_s97 (g : Nat → ClassId) (q : Nat → Nat) : (nsh g q)[97]? = some (k_ai (g 0) (68 : Int32).toNatClampNeg (-2147483648) 2147483647) := rfl
theorem n_s98 (g : Nat → ClassId) (q : Nat → Nat) : (nsh g q)[98]? = some (k_Dec q 98) := rfl
theorem n_s99 (g : Nat → ClassId) (q : Nat → Nat) : (nsh g q)[99]? = some (k_Big q 99 108) := rfl
theorem n_s100 (g : Nat → ClassId) (q : Nat → Nat) : (nsh g q)[100]? = some (k_ai (g 0) (108 : Int32).toNatClampNeg (-2147483648) 2147483647) := rfl
theorem n_s101 (g : Nat → ClassId) (q : Nat → Nat) : (nsh g q)[101]? = some (k_Big q 101 68) := rfl
theorem n_s102 (g : Nat → ClassId) (q : Nat → Nat) : (nsh g q)[102]? = some (k_ai (g 0) (68 : Int32).toNatClampNeg (-2147483648) 2147483647) := rfl
theorem n_s103 (g : Nat → ClassId) (q : Nat → Nat) : (nsh g q)[103]? = some (k_Dec q 103) := rfl
theorem n_s104 (g : Nat → ClassId) (q : Nat → Nat) : (nsh g q)[104]? = some (k_Big q 104 108) := rfl
theorem n_s105 (g : Nat → ClassId) (q : Nat → Nat) : (nsh g q)[105]? = some (k_ai (g 0) (108 : Int32).toNatClampNeg (-2147483648) 2147483647) := rfl
theorem n_s106 (g : Nat → ClassId) (q : Nat → Nat) : (nsh g q)[106]? = some (k_Big q 106 68) := rfl
theorem n_s107 (g : Nat → ClassId) (q : Nat → Nat) : (nsh g q)[107]? = some (k_ai (g 0) (68 : Int32).toNatClampNeg (-2147483648) 2147483647) := rfl
theorem n_s108 (g : Nat → ClassId) (q : Nat → Nat) : (nsh g q)[108]? = some (k_Dec q 108) := rfl
theorem n_s109 (g : Nat → ClassId) (q : Nat → Nat) : (nsh g q)[109]? = some (k_Big q 109 108) := rfl
theorem n_s110 (g : Nat → ClassId) (q : Nat → Nat) : (nsh g q)[110]? = some (k_ai (g 0) (108 : Int32).toNatClampNeg (-2147483648) 2147483647) := rfl
theorem n_s111 (g : Nat → ClassId) (q : Nat → Nat) : (nsh g q)[111]? = some (k_Big q 111 68) := rfl
theorem n_s112 (g : Nat → ClassId) (q : Nat → Nat) : (nsh g q)[112]? = some (k_ai (g 0) (68 : Int32).toNatClampNeg (-2147483648) 2147483647) := rfl
theorem n_s113 (g : Nat → ClassId) (q : Nat → Nat) : (nsh g q)[113]? = some (k_Dec q 113) := rfl
theorem n_s114 (g : Nat → ClassId) (q : Nat → Nat) : (nsh g q)[114]? = some (k_Big q 114 108) := rfl
theorem n_s115 (g : Nat → ClassId) (q : Nat → Nat) : (nsh g q)[115]? = some (k_ai (g 0) (108 : Int32).toNatClampNeg (-2147483648) 2147483647) := rfl
theorem n_ai {sh : List q_Ok} {q : Nat → Nat} {ws : va_W} {k n : Nat} {c : ClassId} {lo hi : Int} (h : q_I sh q ws) (hk : sh[k]? = some (k_ai c n lo hi)) : ∃ f : Nat → Int32, ws[k]? = (some (q k, .inl (c, n, .inl f)) : Option (Nat × va_E)) ∧ ∀ i, lo ≤ (f i).toInt ∧ (f i).toInt ≤ hi := by
  obtain ⟨E, h1, f, rfl, h2⟩ := h k _ hk
  exact ⟨f, h1, h2⟩
theorem n_ai' {sh : List q_Ok} {q : Nat → Nat} {ws u : va_W} {k n : Nat} {c : ClassId} {lo hi : Int} {f : Nat → Int32} (h : q_I sh q ws) (hk : sh[k]? = some (k_ai c n lo hi)) (hu : ∀ i, i ≠ k → u[i]? = ws[i]?) (hx : u[k]? = (some (q k, .inl (c, n, .inl f)) : Option (Nat × va_E))) (hf : ∀ i, lo ≤ (f i).toInt ∧ (f i).toInt ≤ hi) : q_I sh q u := q_Iset h hu hk hx ⟨f, rfl, hf⟩
theorem n_al {sh : List q_Ok} {q : Nat → Nat} {ws : va_W} {k n : Nat} {c : ClassId} (h : q_I sh q ws) (hk : sh[k]? = some (k_al c n)) : ∃ f : Nat → Int64, ws[k]? = (some (q k, .inl (c, n, .inr (.inl f))) : Option (Nat × va_E)) := by
  obtain ⟨E, h1, f, rfl⟩ := h k _ hk
  exact ⟨f, h1⟩
theorem n_al' {sh : List q_Ok} {q : Nat → Nat} {ws u : va_W} {k n : Nat} {c : ClassId} {f : Nat → Int64} (h : q_I sh q ws) (hk : sh[k]? = some (k_al c n)) (hu : ∀ i, i ≠ k → u[i]? = ws[i]?) (hx : u[k]? = (some (q k, .inl (c, n, .inr (.inl f))) : Option (Nat × va_E))) : q_I sh q u := q_Iset h hu hk hx ⟨f, rfl⟩
theorem n_fx {sh : List q_Ok} {q : Nat → Nat} {ws : va_W} {k : Nat} {E : va_E} (h : q_I sh q ws) (hk : sh[k]? = some (k_fix E)) : ws[k]? = (some (q k, E) : Option (Nat × va_E)) := by
  obtain ⟨E1, h1, h2⟩ := h k _ hk
  cases h2
  exact h1
theorem n_o0 {g : Nat → ClassId} {q : Nat → Nat} {ws : va_W} (h : q_I (nsh g q) q ws) : ws[0]? = (some (q 0, .inr (0, [.ref (q 1), .ref (q 3), .ref (q 5), .ref (q 6), .ref (q 7), .ref (q 8), .ref (q 9), .ref (q 30), .ref (q 34), .ref (q 35), .ref (q 36), .ref (q 38), .ref (q 39), .ref (q 40)])) : Option (Nat × va_E)) := by
  obtain ⟨E, h1, rfl⟩ := h 0 _ (n_s0 g q)
  exact h1
theorem n_o9 {g : Nat → ClassId} {q : Nat → Nat} {ws : va_W} (h : q_I (nsh g q) q ws) : ws[9]? = (some (q 9, .inr (4, [.ref (q 10), .ref (q 12), .ref (q 14), .ref (q 16), .ref (q 18), .ref (q 20), .ref (q 22), .ref (q 24), .ref (q 26), .ref (q 28)])) : Option (Nat × va_E)) := by
  obtain ⟨E, h1, rfl⟩ := h 9 _ (n_s9 g q)
  exact h1
theorem n_o30 {g : Nat → ClassId} {q : Nat → Nat} {ws : va_W} (h : q_I (nsh g q) q ws) : ∃ (y0 : Int64) (y1 : Int32), ws[30]? = (some (q 30, .inr (5, [.ref (q 31), .long y0, .ref (q 9), .int y1])) : Option (Nat × va_E)) ∧ (0 ≤ y1.toInt ∧ y1.toInt ≤ 1) := by
  obtain ⟨E, h1, y0, y1, rfl, b0⟩ := h 30 _ (n_s30 g q)
  exact ⟨y0, y1, h1, b0⟩
theorem n_p30 {g : Nat → ClassId} {q : Nat → Nat} {ws u : va_W} {y0 : Int64} {y1 : Int32} (h : q_I (nsh g q) q ws) (hu : ∀ i, i ≠ 30 → u[i]? = ws[i]?) (hx : u[30]? = (some (q 30, .inr (5, [.ref (q 31), .long y0, .ref (q 9), .int y1])) : Option (Nat × va_E))) (b0 : 0 ≤ y1.toInt ∧ y1.toInt ≤ 1) : q_I (nsh g q) q u := q_Iset h hu (n_s30 g q) hx ⟨y0, y1, rfl, b0⟩
theorem n_o36 {g : Nat → ClassId} {q : Nat → Nat} {ws : va_W} (h : q_I (nsh g q) q ws) : ∃ (y0 : Int32) (y1 : Int32), ws[36]? = (some (q 36, .inr (7, [.int y0, .int y1, .ref (q 37)])) : Option (Nat × va_E)) ∧ (0 ≤ y0.toInt ∧ y0.toInt ≤ 1026) ∧ (-1000000 ≤ y1.toInt ∧ y1.toInt ≤ 1000000) := by
  obtain ⟨E, h1, y0, y1, rfl, b0, b1⟩ := h 36 _ (n_s36 g q)
  exact ⟨y0, y1, h1, b0, b1⟩
theorem n_p36 {g : Nat → ClassId} {q : Nat → Nat} {ws u : va_W} {y0 : Int32} {y1 : Int32} (h : q_I (nsh g q) q ws) (hu : ∀ i, i ≠ 36 → u[i]? = ws[i]?) (hx : u[36]? = (some (q 36, .inr (7, [.int y0, .int y1, .ref (q 37)])) : Option (Nat × va_E))) (b0 : 0 ≤ y0.toInt ∧ y0.toInt ≤ 1026) (b1 : -1000000 ≤ y1.toInt ∧ y1.toInt ≤ 1000000) : q_I (nsh g q) q u := q_Iset h hu (n_s36 g q) hx ⟨y0, y1, rfl, b0, b1⟩
theorem n_o38 {g : Nat → ClassId} {q : Nat → Nat} {ws : va_W} (h : q_I (nsh g q) q ws) : ∃ (y0 : Int64) (y1 : Int64) (y2 : Int32) (y3 : Int32) (y4 : Int32) (y5 : Int32) (y6 : Int32) (y7 : Int32) (y8 : Int32) (y9 : Int64), ws[38]? = (some (q 38, .inr (8, [.long y0, .long y1, .ref (q 1), .ref (q 9), .int y2, .int y3, .int y4, .int y5, .int y6, .int y7, .int y8, .long y9])) : Option (Nat × va_E)) ∧ (0 ≤ y4.toInt ∧ y4.toInt ≤ 1) ∧ (0 ≤ y8.toInt ∧ y8.toInt ≤ 1) := by
  obtain ⟨E, h1, y0, y1, y2, y3, y4, y5, y6, y7, y8, y9, rfl, b0, b1⟩ := h 38 _ (n_s38 g q)
  exact ⟨y0, y1, y2, y3, y4, y5, y6, y7, y8, y9, h1, b0, b1⟩
theorem n_p38 {g : Nat → ClassId} {q : Nat → Nat} {ws u : va_W} {y0 : Int64} {y1 : Int64} {y2 : Int32} {y3 : Int32} {y4 : Int32} {y5 : Int32} {y6 : Int32} {y7 : Int32} {y8 : Int32} {y9 : Int64} (h : q_I (nsh g q) q ws) (hu : ∀ i, i ≠ 38 → u[i]? = ws[i]?) (hx : u[38]? = (some (q 38, .inr (8, [.long y0, .long y1, .ref (q 1), .ref (q 9), .int y2, .int y3, .int y4, .int y5, .int y6, .int y7, .int y8, .long y9])) : Option (Nat × va_E))) (b0 : 0 ≤ y4.toInt ∧ y4.toInt ≤ 1) (b1 : 0 ≤ y8.toInt ∧ y8.toInt ≤ 1) : q_I (nsh g q) q u := q_Iset h hu (n_s38 g q) hx ⟨y0, y1, y2, y3, y4, y5, y6, y7, y8, y9, rfl, b0, b1⟩
theorem n_o39 {g : Nat → ClassId} {q : Nat → Nat} {ws : va_W} (h : q_I (nsh g q) q ws) : ws[39]? = (some (q 39, .inr (9, [.ref (q 3), .ref (q 9), .ref (q 36)])) : Option (Nat × va_E)) := by
  obtain ⟨E, h1, rfl⟩ := h 39 _ (n_s39 g q)
  exact h1
theorem n_o40 {g : Nat → ClassId} {q : Nat → Nat} {ws : va_W} (h : q_I (nsh g q) q ws) : ∃ (y0 : Int32) (y1 : Int32) (y2 : Int32) (y3 : Int32), ws[40]? = (some (q 40, .inr (11, [.int y0, .ref (q 41), .ref (q 42), .ref (q 43), .ref (q 44), .ref (q 1), .ref (q 47), .ref (q 36), .ref (q 45), .int y1, .int y2, .int y3])) : Option (Nat × va_E)) ∧ (0 ≤ y0.toInt ∧ y0.toInt ≤ 9) ∧ (-1 ≤ y1.toInt ∧ y1.toInt ≤ 1000000) ∧ (-1 ≤ y3.toInt ∧ y3.toInt ≤ 8) := by
  obtain ⟨E, h1, y0, y1, y2, y3, rfl, b0, b1, b2⟩ := h 40 _ (n_s40 g q)
  exact ⟨y0, y1, y2, y3, h1, b0, b1, b2⟩
theorem n_p40 {g : Nat → ClassId} {q : Nat → Nat} {ws u : va_W} {y0 : Int32} {y1 : Int32} {y2 : Int32} {y3 : Int32} (h : q_I (nsh g q) q ws) (hu : ∀ i, i ≠ 40 → u[i]? = ws[i]?) (hx : u[40]? = (some (q 40, .inr (11, [.int y0, .ref (q 41), .ref (q 42), .ref (q 43), .ref (q 44), .ref (q 1), .ref (q 47), .ref (q 36), .ref (q 45), .int y1, .int y2, .int y3])) : Option (Nat × va_E))) (b0 : 0 ≤ y0.toInt ∧ y0.toInt ≤ 9) (b1 : -1 ≤ y1.toInt ∧ y1.toInt ≤ 1000000) (b2 : -1 ≤ y3.toInt ∧ y3.toInt ≤ 8) : q_I (nsh g q) q u := q_Iset h hu (n_s40 g q) hx ⟨y0, y1, y2, y3, rfl, b0, b1, b2⟩
theorem n_o47 {g : Nat → ClassId} {q : Nat → Nat} {ws : va_W} (h : q_I (nsh g q) q ws) : ∃ (y0 : Int32) (y1 : Int32) (y2 : Int32) (y3 : Int32) (y4 : Int32) (y5 : Int32) (y6 : Int32), ws[47]? = (some (q 47, .inr (10, [.int y0, .int y1, .int y2, .int y3, .int y4, .int y5, .ref (q 1), .int y6])) : Option (Nat × va_E)) ∧ (-1 ≤ y2.toInt ∧ y2.toInt ≤ 9999) ∧ (-1 ≤ y3.toInt ∧ y3.toInt ≤ 9999) ∧ (0 ≤ y6.toInt ∧ y6.toInt ≤ 1) := by
  obtain ⟨E, h1, y0, y1, y2, y3, y4, y5, y6, rfl, b0, b1, b2⟩ := h 47 _ (n_s47 g q)
  exact ⟨y0, y1, y2, y3, y4, y5, y6, h1, b0, b1, b2⟩
theorem n_p47 {g : Nat → ClassId} {q : Nat → Nat} {ws u : va_W} {y0 : Int32} {y1 : Int32} {y2 : Int32} {y3 : Int32} {y4 : Int32} {y5 : Int32} {y6 : Int32} (h : q_I (nsh g q) q ws) (hu : ∀ i, i ≠ 47 → u[i]? = ws[i]?) (hx : u[47]? = (some (q 47, .inr (10, [.int y0, .int y1, .int y2, .int y3, .int y4, .int y5, .ref (q 1), .int y6])) : Option (Nat × va_E))) (b0 : -1 ≤ y2.toInt ∧ y2.toInt ≤ 9999) (b1 : -1 ≤ y3.toInt ∧ y3.toInt ≤ 9999) (b2 : 0 ≤ y6.toInt ∧ y6.toInt ≤ 1) : q_I (nsh g q) q u := q_Iset h hu (n_s47 g q) hx ⟨y0, y1, y2, y3, y4, y5, y6, rfl, b0, b1, b2⟩
theorem n_shO {g : Nat → ClassId} {q : Nat → Nat} {ws : va_W} {k : Nat} {R N K : Int32} (h : q_I (nsh g q) q ws) (b : q_isShe (nsh g q) g q k R N K) : ∃ y1 : Int32, ws[k]? = (some (q k, .inr (1, [.ref (q (k + 1)), .int R, .int y1])) : Option (Nat × va_E)) ∧ (0 ≤ y1.toInt ∧ y1.toInt ≤ K.toInt) := by
  obtain ⟨E, h1, y1, rfl, h2⟩ := h k _ b.1
  exact ⟨y1, h1, h2⟩
theorem n_shO' {g : Nat → ClassId} {q : Nat → Nat} {ws u : va_W} {k : Nat} {R N K y1 : Int32} (h : q_I (nsh g q) q ws) (b : q_isShe (nsh g q) g q k R N K) (hu : ∀ i, i ≠ k → u[i]? = ws[i]?) (hx : u[k]? = (some (q k, .inr (1, [.ref (q (k + 1)), .int R, .int y1])) : Option (Nat × va_E))) (h1 : 0 ≤ y1.toInt ∧ y1.toInt ≤ K.toInt) : q_I (nsh g q) q u := q_Iset h hu b.1 hx ⟨y1, rfl, h1⟩
theorem n_deO {g : Nat → ClassId} {q : Nat → Nat} {ws : va_W} {k : Nat} {R : Int32} (h : q_I (nsh g q) q ws) (b : q_isDec (nsh g q) g q k R) : ∃ y1 y2 : Int32, ws[k]? = (some (q k, .inr (3, [.ref (q (k + 1)), .int y1, .int y2])) : Option (Nat × va_E)) ∧ (-10000 ≤ y1.toInt ∧ y1.toInt ≤ 10000) ∧ (1 ≤ y2.toInt ∧ y2.toInt ≤ 1000) := by
  obtain ⟨E, h1, y1, y2, rfl, h2⟩ := h k _ b.1
  exact ⟨y1, y2, h1, h2⟩
theorem n_deO' {g : Nat → ClassId} {q : Nat → Nat} {ws u : va_W} {k : Nat} {R y1 y2 : Int32} (h : q_I (nsh g q) q ws) (b : q_isDec (nsh g q) g q k R) (hu : ∀ i, i ≠ k → u[i]? = ws[i]?) (hx : u[k]? = (some (q k, .inr (3, [.ref (q (k + 1)), .int y1, .int y2])) : Option (Nat × va_E))) (h1 : -10000 ≤ y1.toInt ∧ y1.toInt ≤ 10000) (h2 : 1 ≤ y2.toInt ∧ y2.toInt ≤ 1000) : q_I (nsh g q) q u := q_Iset h hu b.1 hx ⟨y1, y2, rfl, h1, h2⟩
theorem n_flO {g : Nat → ClassId} {q : Nat → Nat} {ws : va_W} {k : Nat} {a b c : Int32} (h : q_I (nsh g q) q ws) (B : q_isFlo (nsh g q) q k a b c) : ∃ (y1 : Int64) (y2 y3 : Int32), ws[k]? = (some (q k, .inr (6, [.int a, .int b, .int c, .long y1, .int y2, .ref (q 9), .int y3])) : Option (Nat × va_E)) := by
  obtain ⟨E, h1, y1, y2, y3, rfl⟩ := h k _ B.1
  exact ⟨y1, y2, y3, h1⟩
theorem n_flO' {g : Nat → ClassId} {q : Nat → Nat} {ws u : va_W} {k : Nat} {a b c y2 y3 : Int32} {y1 : Int64} (h : q_I (nsh g q) q ws) (B : q_isFlo (nsh g q) q k a b c) (hu : ∀ i, i ≠ k → u[i]? = ws[i]?) (hx : u[k]? = (some (q k, .inr (6, [.int a, .int b, .int c, .long y1, .int y2, .ref (q 9), .int y3])) : Option (Nat × va_E))) : q_I (nsh g q) q u := q_Iset h hu B.1 hx ⟨y1, y2, y3, rfl⟩
theorem n_h1 (g : Nat → ClassId) (q : Nat → Nat) : q_isShe (nsh g q) g q 1 4100 513 4100 := ⟨rfl, rfl, by decide, by decide⟩
theorem n_h3 (g : Nat → ClassId) (q : Nat → Nat) : q_isShe (nsh g q) g q 3 11008 1376 1000000 := ⟨rfl, rfl, by decide, by decide⟩
theorem n_b10 (g : Nat → ClassId) (q : Nat → Nat) : q_isBig (nsh g q) g q 10 220 := ⟨rfl, rfl, by decide, by decide⟩
theorem n_b12 (g : Nat → ClassId) (q : Nat → Nat) : q_isBig (nsh g q) g q 12 220 := ⟨rfl, rfl, by decide, by decide⟩
theorem n_b14 (g : Nat → ClassId) (q : Nat → Nat) : q_isBig (nsh g q) g q 14 220 := ⟨rfl, rfl, by decide, by decide⟩
theorem n_b16 (g : Nat → ClassId) (q : Nat → Nat) : q_isBig (nsh g q) g q 16 220 := ⟨rfl, rfl, by decide, by decide⟩
theorem n_b18 (g : Nat → ClassId) (q : Nat → Nat) : q_isBig (nsh g q) g q 18 220 := ⟨rfl, rfl, by decide, by decide⟩
theorem n_b20 (g : Nat → ClassId) (q : Nat → Nat) : q_isBig (nsh g q) g q 20 220 := ⟨rfl, rfl, by decide, by decide⟩
theorem n_b22 (g : Nat → ClassId) (q : Nat → Nat) : q_isBig (nsh g q) g q 22 220 := ⟨rfl, rfl, by decide, by decide⟩
theorem n_b24 (g : Nat → ClassId) (q : Nat → Nat) : q_isBig (nsh g q) g q 24 220 := ⟨rfl, rfl, by decide, by decide⟩
theorem n_b26 (g : Nat → ClassId) (q : Nat → Nat) : q_isBig (nsh g q) g q 26 220 := ⟨rfl, rfl, by decide, by decide⟩
theorem n_b28 (g : Nat → ClassId) (q : Nat → Nat) : q_isBig (nsh g q) g q 28 220 := ⟨rfl, rfl, by decide, by decide⟩
theorem n_b32 (g : Nat → ClassId) (q : Nat → Nat) : q_isBig (nsh g q) g q 32 3 := ⟨rfl, rfl, by decide, by decide⟩
theorem n_f34 (g : Nat → ClassId) (q : Nat → Nat) : q_isFlo (nsh g q) q 34 52 1075 2047 := ⟨rfl, by decide, by decide, by decide, by decide⟩
theorem n_f35 (g : Nat → ClassId) (q : Nat → Nat) : q_isFlo (nsh g q) q 35 23 150 255 := ⟨rfl, by decide, by decide, by decide, by decide⟩
theorem n_h45 (g : Nat → ClassId) (q : Nat → Nat) : q_isShe (nsh g q) g q 45 4104 513 1000000 := ⟨rfl, rfl, by decide, by decide⟩
theorem n_d31 (g : Nat → ClassId) (q : Nat → Nat) : q_isDec (nsh g q) g q 31 3 := ⟨rfl, rfl, rfl, by decide, by decide⟩
theorem n_w (g : Nat → ClassId) (q : Nat → Nat) {j : Nat} (h : j < 10) : q_isBig (nsh g q) g q (66 + 5 * j) 68 := by
  rcases (show j = 0 ∨ j = 1 ∨ j = 2 ∨ j = 3 ∨ j = 4 ∨ j = 5 ∨ j = 6 ∨ j = 7 ∨ j = 8 ∨ j = 9 by omega) with rfl | rfl | rfl | rfl | rfl | rfl | rfl | rfl | rfl | rfl <;> exact ⟨rfl, rfl, by decide, by decide⟩
theorem n_d (g : Nat → ClassId) (q : Nat → Nat) {j : Nat} (h : j < 10) : q_isDec (nsh g q) g q (68 + 5 * j) 108 := by
  rcases (show j = 0 ∨ j = 1 ∨ j = 2 ∨ j = 3 ∨ j = 4 ∨ j = 5 ∨ j = 6 ∨ j = 7 ∨ j = 8 ∨ j = 9 by omega) with rfl | rfl | rfl | rfl | rfl | rfl | rfl | rfl | rfl | rfl <;> exact ⟨rfl, rfl, rfl, by decide, by decide⟩
theorem n_t (g : Nat → ClassId) (q : Nat → Nat) {j : Nat} (h : j < 9) : q_isShe (nsh g q) g q (48 + 2 * j) 64 8 64 := by
  rcases (show j = 0 ∨ j = 1 ∨ j = 2 ∨ j = 3 ∨ j = 4 ∨ j = 5 ∨ j = 6 ∨ j = 7 ∨ j = 8 by omega) with rfl | rfl | rfl | rfl | rfl | rfl | rfl | rfl | rfl <;> exact ⟨rfl, rfl, by decide, by decide⟩
section QJ
variable {p : Program} {l : Launch} {e : Env} {R : Room} {s : State} {m : MethodId} {args : Array Value} {below : List Frame} {meth : Method} {c : Code} {H0 : Heap} {locs0 : List Loc} {cells slots : Nat} {Q : State → Prop} {pc : Nat} {ls0 : Array Slot} {rest : List Value}
/-- where roads meet: what is shown once for all of them -/
theorem q_join {X : Type} (I : X → Heap → List Loc → Array Slot → va_W → Prop) (stk : X → List Value) (j cells' slots' : Nat)
    (body : ∀ (x : X) (H : Heap) (locs : List Loc) (ls : Array Slot) (u : va_W), I x H locs ls u → W p l e R s m args below meth c H locs cells' slots' Q (F0 m j ls (stk x)))
    (main : (∀ (x : X) (H : Heap) (locs : List Loc) (ls : Array Slot) (u : va_W), I x H locs ls u → W p l e R s m args below meth c H locs cells' slots' Q (F0 m j ls (stk x))) → W p l e R s m args below meth c H0 locs0 cells slots Q (F0 m pc ls0 rest)) : W p l e R s m args below meth c H0 locs0 cells slots Q (F0 m pc ls0 rest) := main body
end QJ
theorem n_shr {x c : Int32} (k : Nat) (hc : (c &&& 31).toBitVec.smod 32 = BitVec.ofNat 32 k) (hk : k ≤ 31) (h0 : 0 ≤ x.toInt) : (2 ^ k : Int) * (x >>> (c &&& 31)).toInt ≤ x.toInt ∧ x.toInt ≤ (2 ^ k : Int) * (x >>> (c &&& 31)).toInt + (2 ^ k - 1) := by
  rw [s_shr k hc hk h0]
  have h1 : (0 : Int) < 2 ^ k := Int.pow_pos (by decide)
  have h2 := Int.mul_ediv_self_le (x := x.toInt) (k := 2 ^ k) (by omega)
  have h3 := Int.lt_mul_ediv_self_add (x := x.toInt) h1
  exact ⟨h2, by omega⟩
theorem n_divI {a b : Int32} {n : Int} (hb : b.toInt = n) (hn : 0 < n) : (0 ≤ a.toInt ∧ n * (a / b).toInt ≤ a.toInt ∧ a.toInt ≤ n * (a / b).toInt + (n - 1)) ∨ (a.toInt < 0 ∧ a.toInt ≤ n * (a / b).toInt ∧ n * (a / b).toInt ≤ a.toInt + (n - 1)) := by
  have hlo := Int32.le_toInt a
  have hhi := Int32.toInt_lt a
  by_cases h : 0 ≤ a.toInt
  · have h1 : a.toInt.tdiv n = a.toInt / n := Int.tdiv_eq_ediv_of_nonneg h
    have h2 := Int.mul_ediv_self_le (x := a.toInt) (k := n) (by omega)
    have h3 := Int.lt_mul_ediv_self_add (x := a.toInt) hn
    have h4 : 0 ≤ a.toInt / n := Int.ediv_nonneg h (by omega)
    have h5 : a.toInt / n ≤ a.toInt := Int.ediv_le_self n h
    have e : (a / b).toInt = a.toInt / n := by rw [Int32.toInt_div, hb, h1]; exact q_bm (by omega) (by omega)
    left; rw [e]; exact ⟨h, h2, by omega⟩
  · have h1 : a.toInt.tdiv n = -((-a.toInt) / n) := by
      have h2 : a.toInt = -(-a.toInt) := by omega
      rw [h2, Int.neg_tdiv, Int.tdiv_eq_ediv_of_nonneg (by omega)]
      simp
    have h2 := Int.mul_ediv_self_le (x := -a.toInt) (k := n) (by omega)
    have h3 := Int.lt_mul_ediv_self_add (x := -a.toInt) hn
    have h4 : 0 ≤ -a.toInt / n := Int.ediv_nonneg (by omega) (by omega)
    have h5 : -a.toInt / n ≤ -a.toInt := Int.ediv_le_self n (by omega)
    have e : (a / b).toInt = -((-a.toInt) / n) := by rw [Int32.toInt_div, hb, h1]; exact q_bm (by omega) (by omega)
    have h6 : n * -(-a.toInt / n) = -(n * (-a.toInt / n)) := Int.mul_neg _ _
    right; rw [e]; exact ⟨by omega, by omega, by omega⟩
