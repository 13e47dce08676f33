def F_DW_divideRaised_a_c103 (R2 : Int32) (x4 : Int32) (t0_0 : Int64) (t0_1 : Int32) (t1_0 : Int32) (t1_1 : Int32) (t2_0 : (Nat → Int32)) (t3_0 : Int32) (t3_1 : Int32) (t4_0 : (Nat → Int32)) (t5_0 : Int32) (t5_1 : Int32) (t6_0 : (Nat → Int32)) (t7_0 : Int32) (t7_1 : Int32) (t8_0 : Int32) (t8_1 : Int32) (t9_0 : (Nat → Int32)) (p57 : (Int32 × Int32 × (Nat → Int32))) (p80 : (Int32 × Int32 × (Nat → Int32))) (p109 : (Int32 × Int32 × Int32 × (Nat → Int32))) (a94 : Int32) (p157 : (Int32 × Int32 × (Nat → Int32) × Int32 × Int32 × (Nat → Int32) × Int32 × Int32 × (Nat → Int32))) (a175 : Int32) (y136 : Int32) (y137 : Int32) (f138 : (Nat → Int32)) (y126 : Int32) (y127 : Int32) (f128 : (Nat → Int32)) (y131 : Int32) (y132 : Int32) (f133 : (Nat → Int32)) (p194 : (Int32 × Int32 × (Nat → Int32))) : Int64 × Int32 × Int32 × Int32 × (Nat → Int32) × Int32 × Int32 × (Nat → Int32) × Int32 × Int32 × (Nat → Int32) × Int32 × Int32 × (Nat → Int32) := (t0_0, a175, (p194.1 : Int32), (p194.2.1 : Int32), (p194.2.2 : (Nat → Int32)), y136, y137, f138, y126, y127, f128, y131, y132, f133)
def F_DW_divideRaised_a_c103_6 (R2 : Int32) (x4 : Int32) (t0_0 : Int64) (t0_1 : Int32) (t1_0 : Int32) (t1_1 : Int32) (t2_0 : (Nat → Int32)) (t3_0 : Int32) (t3_1 : Int32) (t4_0 : (Nat → Int32)) (t5_0 : Int32) (t5_1 : Int32) (t6_0 : (Nat → Int32)) (t7_0 : Int32) (t7_1 : Int32) (t8_0 : Int32) (t8_1 : Int32) (t9_0 : (Nat → Int32)) (p57 : (Int32 × Int32 × (Nat → Int32))) (p80 : (Int32 × Int32 × (Nat → Int32))) (p109 : (Int32 × Int32 × Int32 × (Nat → Int32))) (a94 : Int32) (p157 : (Int32 × Int32 × (Nat → Int32) × Int32 × Int32 × (Nat → Int32) × Int32 × Int32 × (Nat → Int32))) (a205 : Int32) (y136 : Int32) (y137 : Int32) (f138 : (Nat → Int32)) (y126 : Int32) (y127 : Int32) (f128 : (Nat → Int32)) (y131 : Int32) (y132 : Int32) (f133 : (Nat → Int32)) (p224 : (Int32 × Int32 × (Nat → Int32))) : Int64 × Int32 × Int32 × Int32 × (Nat → Int32) × Int32 × Int32 × (Nat → Int32) × Int32 × Int32 × (Nat → Int32) × Int32 × Int32 × (Nat → Int32) := (t0_0, a205, (p224.1 : Int32), (p224.2.1 : Int32), (p224.2.2 : (Nat → Int32)), y136, y137, f138, y126, y127, f128, y131, y132, f133)
def F_DW_divideRaised_a_c59 (R2 : Int32) (x4 : Int32) (t0_0 : Int64) (t0_1 : Int32) (t1_0 : Int32) (t1_1 : Int32) (t2_0 : (Nat → Int32)) (t3_0 : Int32) (t3_1 : Int32) (t4_0 : (Nat → Int32)) (t5_0 : Int32) (t5_1 : Int32) (t6_0 : (Nat → Int32)) (t7_0 : Int32) (t7_1 : Int32) (t8_0 : Int32) (t8_1 : Int32) (t9_0 : (Nat → Int32)) (p57 : (Int32 × Int32 × (Nat → Int32))) (p80 : (Int32 × Int32 × (Nat → Int32))) (p109 : (Int32 × Int32 × Int32 × (Nat → Int32))) (a94 : Int32) (p157 : (Int32 × Int32 × (Nat → Int32) × Int32 × Int32 × (Nat → Int32) × Int32 × Int32 × (Nat → Int32))) : Int64 × Int32 × Int32 × Int32 × (Nat → Int32) × Int32 × Int32 × (Nat → Int32) × Int32 × Int32 × (Nat → Int32) × Int32 × Int32 × (Nat → Int32) := if (p157.1 : Int32) ≤ (0 : Int32) then (F_DW_divideRaised_a_c103 R2 x4 t0_0 t0_1 t1_0 t1_1 t2_0 t3_0 t3_1 t4_0 t5_0 t5_1 t6_0 t7_0 t7_1 t8_0 t8_1 t9_0 p57 p80 p109 a94 p157 (a94 ||| 0 : Int32) (p157.2.2.2.2.2.2.1 : Int32) (p157.2.2.2.2.2.2.2.1 : Int32) (p157.2.2.2.2.2.2.2.2 : (Nat → Int32)) (p157.1 : Int32) (p157.2.1 : Int32) (p157.2.2.1 : (Nat → Int32)) (p157.2.2.2.1 : Int32) (p157.2.2.2.2.1 : Int32) (p157.2.2.2.2.2.1 : (Nat → Int32)) ((F_Big_copy (220 : Int32) (220 : Int32) t1_0 t1_1 t2_0 (p157.2.2.2.2.2.2.1 : Int32) (p157.2.2.2.2.2.2.2.1 : Int32) (p157.2.2.2.2.2.2.2.2 : (Nat → Int32))) : (Int32 × Int32 × (Nat → Int32)))) else (F_DW_divideRaised_a_c103_6 R2 x4 t0_0 t0_1 t1_0 t1_1 t2_0 t3_0 t3_1 t4_0 t5_0 t5_1 t6_0 t7_0 t7_1 t8_0 t8_1 t9_0 p57 p80 p109 a94 p157 (a94 ||| 1 : Int32) (p157.2.2.2.2.2.2.1 : Int32) (p157.2.2.2.2.2.2.2.1 : Int32) (p157.2.2.2.2.2.2.2.2 : (Nat → Int32)) (p157.1 : Int32) (p157.2.1 : Int32) (p157.2.2.1 : (Nat → Int32)) (p157.2.2.2.1 : Int32) (p157.2.2.2.2.1 : Int32) (p157.2.2.2.2.2.1 : (Nat → Int32)) ((F_Big_copy (220 : Int32) (220 : Int32) t1_0 t1_1 t2_0 (p157.2.2.2.2.2.2.1 : Int32) (p157.2.2.2.2.2.2.2.1 : Int32) (p157.2.2.2.2.2.2.2.2 : (Nat → Int32))) : (Int32 × Int32 × (Nat → Int32))))
def F_DW_divideRaised_a_c35 (R2 : Int32) (x4 : Int32) (t0_0 : Int64) (t0_1 : Int32) (t1_0 : Int32) (t1_1 : Int32) (t2_0 : (Nat → Int32)) (t3_0 : Int32) (t3_1 : Int32) (t4_0 : (Nat → Int32)) (t5_0 : Int32) (t5_1 : Int32) (t6_0 : (Nat → Int32)) (t7_0 : Int32) (t7_1 : Int32) (t8_0 : Int32) (t8_1 : Int32) (t9_0 : (Nat → Int32)) (p57 : (Int32 × Int32 × (Nat → Int32))) (p80 : (Int32 × Int32 × (Nat → Int32))) (p109 : (Int32 × Int32 × Int32 × (Nat → Int32))) : Int64 × Int32 × Int32 × Int32 × (Nat → Int32) × Int32 × Int32 × (Nat → Int32) × Int32 × Int32 × (Nat → Int32) × Int32 × Int32 × (Nat → Int32) := F_DW_divideRaised_a_c59 R2 x4 t0_0 t0_1 t1_0 t1_1 t2_0 t3_0 t3_1 t4_0 t5_0 t5_1 t6_0 t7_0 t7_1 t8_0 t8_1 t9_0 p57 p80 p109 (p109.1 : Int32) ((F_Big_divideBy (220 : Int32) R2 (220 : Int32) (p109.2.1 : Int32) (p109.2.2.1 : Int32) (p109.2.2.2 : (Nat → Int32)) t8_0 t8_1 t9_0 t3_0 t3_1 t4_0) : (Int32 × Int32 × (Nat → Int32) × Int32 × Int32 × (Nat → Int32) × Int32 × Int32 × (Nat → Int32)))
def F_DW_divideRaised_a_c22 (R2 : Int32) (x4 : Int32) (t0_0 : Int64) (t0_1 : Int32) (t1_0 : Int32) (t1_1 : Int32) (t2_0 : (Nat → Int32)) (t3_0 : Int32) (t3_1 : Int32) (t4_0 : (Nat → Int32)) (t5_0 : Int32) (t5_1 : Int32) (t6_0 : (Nat → Int32)) (t7_0 : Int32) (t7_1 : Int32) (t8_0 : Int32) (t8_1 : Int32) (t9_0 : (Nat → Int32)) (p57 : (Int32 × Int32 × (Nat → Int32))) (p80 : (Int32 × Int32 × (Nat → Int32))) : Int64 × Int32 × Int32 × Int32 × (Nat → Int32) × Int32 × Int32 × (Nat → Int32) × Int32 × Int32 × (Nat → Int32) × Int32 × Int32 × (Nat → Int32) := F_DW_divideRaised_a_c35 R2 x4 t0_0 t0_1 t1_0 t1_1 t2_0 t3_0 t3_1 t4_0 t5_0 t5_1 t6_0 t7_0 t7_1 t8_0 t8_1 t9_0 p57 p80 ((F_Big_dropFigures (220 : Int32) (-x4 : Int32) (p80.1 : Int32) (p80.2.1 : Int32) (p80.2.2 : (Nat → Int32))) : (Int32 × Int32 × Int32 × (Nat → Int32)))
def F_DW_divideRaised_a_c11 (R2 : Int32) (x4 : Int32) (t0_0 : Int64) (t0_1 : Int32) (t1_0 : Int32) (t1_1 : Int32) (t2_0 : (Nat → Int32)) (t3_0 : Int32) (t3_1 : Int32) (t4_0 : (Nat → Int32)) (t5_0 : Int32) (t5_1 : Int32) (t6_0 : (Nat → Int32)) (t7_0 : Int32) (t7_1 : Int32) (t8_0 : Int32) (t8_1 : Int32) (t9_0 : (Nat → Int32)) (p57 : (Int32 × Int32 × (Nat → Int32))) : Int64 × Int32 × Int32 × Int32 × (Nat → Int32) × Int32 × Int32 × (Nat → Int32) × Int32 × Int32 × (Nat → Int32) × Int32 × Int32 × (Nat → Int32) := F_DW_divideRaised_a_c22 R2 x4 t0_0 t0_1 t1_0 t1_1 t2_0 t3_0 t3_1 t4_0 t5_0 t5_1 t6_0 t7_0 t7_1 t8_0 t8_1 t9_0 p57 ((F_Big_timesTen (220 : Int32) x4 (p57.1 : Int32) (p57.2.1 : Int32) (p57.2.2 : (Nat → Int32))) : (Int32 × Int32 × (Nat → Int32)))
def F_DW_divideRaised_a (R2 : Int32) (x4 : Int32) (t0_0 : Int64) (t0_1 : Int32) (t1_0 : Int32) (t1_1 : Int32) (t2_0 : (Nat → Int32)) (t3_0 : Int32) (t3_1 : Int32) (t4_0 : (Nat → Int32)) (t5_0 : Int32) (t5_1 : Int32) (t6_0 : (Nat → Int32)) (t7_0 : Int32) (t7_1 : Int32) (t8_0 : Int32) (t8_1 : Int32) (t9_0 : (Nat → Int32)) : Int64 × Int32 × Int32 × Int32 × (Nat → Int32) × Int32 × Int32 × (Nat → Int32) × Int32 × Int32 × (Nat → Int32) × Int32 × Int32 × (Nat → Int32) := F_DW_divideRaised_a_c11 R2 x4 t0_0 t0_1 t1_0 t1_1 t2_0 t3_0 t3_1 t4_0 t5_0 t5_1 t6_0 t7_0 t7_1 t8_0 t8_1 t9_0 ((F_Big_copy (220 : Int32) R2 t5_0 t5_1 t6_0 t8_0 t8_1 t9_0) : (Int32 × Int32 × (Nat → Int32)))
def S_DW_divideRaised_a_c103 (R2 : Int32) (x4 : Int32) (t0_0 : Int64) (t0_1 : Int32) (t1_0 : Int32) (t1_1 : Int32) (t2_0 : (Nat → Int32)) (t3_0 : Int32) (t3_1 : Int32) (t4_0 : (Nat → Int32)) (t5_0 : Int32) (t5_1 : Int32) (t6_0 : (Nat → Int32)) (t7_0 : Int32) (t7_1 : Int32) (t8_0 : Int32) (t8_1 : Int32) (t9_0 : (Nat → Int32)) (p57 : (Int32 × Int32 × (Nat → Int32))) (p80 : (Int32 × Int32 × (Nat → Int32))) (p109 : (Int32 × Int32 × Int32 × (Nat → Int32))) (a94 : Int32) (p157 : (Int32 × Int32 × (Nat → Int32) × Int32 × Int32 × (Nat → Int32) × Int32 × Int32 × (Nat → Int32))) (a175 : Int32) (y136 : Int32) (y137 : Int32) (f138 : (Nat → Int32)) (y126 : Int32) (y127 : Int32) (f128 : (Nat → Int32)) (y131 : Int32) (y132 : Int32) (f133 : (Nat → Int32)) (p194 : (Int32 × Int32 × (Nat → Int32))) : Prop := True
def S_DW_divideRaised_a_c103_6 (R2 : Int32) (x4 : Int32) (t0_0 : Int64) (t0_1 : Int32) (t1_0 : Int32) (t1_1 : Int32) (t2_0 : (Nat → Int32)) (t3_0 : Int32) (t3_1 : Int32) (t4_0 : (Nat → Int32)) (t5_0 : Int32) (t5_1 : Int32) (t6_0 : (Nat → Int32)) (t7_0 : Int32) (t7_1 : Int32) (t8_0 : Int32) (t8_1 : Int32) (t9_0 : (Nat → Int32)) (p57 : (Int32 × Int32 × (Nat → Int32))) (p80 : (Int32 × Int32 × (Nat → Int32))) (p109 : (Int32 × Int32 × Int32 × (Nat → Int32))) (a94 : Int32) (p157 : (Int32 × Int32 × (Nat → Int32) × Int32 × Int32 × (Nat → Int32) × Int32 × Int32 × (Nat → Int32))) (a205 : Int32) (y136 : Int32) (y137 : Int32) (f138 : (Nat → Int32)) (y126 : Int32) (y127 : Int32) (f128 : (Nat → Int32)) (y131 : Int32) (y132 : Int32) (f133 : (Nat → Int32)) (p224 : (Int32 × Int32 × (Nat → Int32))) : Prop := True
def S_DW_divideRaised_a_c59 (R2 : Int32) (x4 : Int32) (t0_0 : Int64) (t0_1 : Int32) (t1_0 : Int32) (t1_1 : Int32) (t2_0 : (Nat → Int32)) (t3_0 : Int32) (t3_1 : Int32) (t4_0 : (Nat → Int32)) (t5_0 : Int32) (t5_1 : Int32) (t6_0 : (Nat → Int32)) (t7_0 : Int32) (t7_1 : Int32) (t8_0 : Int32) (t8_1 : Int32) (t9_0 : (Nat → Int32)) (p57 : (Int32 × Int32 × (Nat → Int32))) (p80 : (Int32 × Int32 × (Nat → Int32))) (p109 : (Int32 × Int32 × Int32 × (Nat → Int32))) (a94 : Int32) (p157 : (Int32 × Int32 × (Nat → Int32) × Int32 × Int32 × (Nat → Int32) × Int32 × Int32 × (Nat → Int32))) : Prop := if (p157.1 : Int32) ≤ (0 : Int32) then (S_DW_divideRaised_a_c103 R2 x4 t0_0 t0_1 t1_0 t1_1 t2_0 t3_0 t3_1 t4_0 t5_0 t5_1 t6_0 t7_0 t7_1 t8_0 t8_1 t9_0 p57 p80 p109 a94 p157 (a94 ||| 0 : Int32) (p157.2.2.2.2.2.2.1 : Int32) (p157.2.2.2.2.2.2.2.1 : Int32) (p157.2.2.2.2.2.2.2.2 : (Nat → Int32)) (p157.1 : Int32) (p157.2.1 : Int32) (p157.2.2.1 : (Nat → Int32)) (p157.2.2.2.1 : Int32) (p157.2.2.2.2.1 : Int32) (p157.2.2.2.2.2.1 : (Nat → Int32)) ((F_Big_copy (220 : Int32) (220 : Int32) t1_0 t1_1 t2_0 (p157.2.2.2.2.2.2.1 : Int32) (p157.2.2.2.2.2.2.2.1 : Int32) (p157.2.2.2.2.2.2.2.2 : (Nat → Int32))) : (Int32 × Int32 × (Nat → Int32)))) else (S_DW_divideRaised_a_c103_6 R2 x4 t0_0 t0_1 t1_0 t1_1 t2_0 t3_0 t3_1 t4_0 t5_0 t5_1 t6_0 t7_0 t7_1 t8_0 t8_1 t9_0 p57 p80 p109 a94 p157 (a94 ||| 1 : Int32) (p157.2.2.2.2.2.2.1 : Int32) (p157.2.2.2.2.2.2.2.1 : Int32) (p157.2.2.2.2.2.2.2.2 : (Nat → Int32)) (p157.1 : Int32) (p157.2.1 : Int32) (p157.2.2.1 : (Nat → Int32)) (p157.2.2.2.1 : Int32) (p157.2.2.2.2.1 : Int32) (p157.2.2.2.2.2.1 : (Nat → Int32)) ((F_Big_copy (220 : Int32) (220 : Int32) t1_0 t1_1 t2_0 (p157.2.2.2.2.2.2.1 : Int32) (p157.2.2.2.2.2.2.2.1 : Int32) (p157.2.2.2.2.2.2.2.2 : (Nat → Int32))) : (Int32 × Int32 × (Nat → Int32))))
def S_DW_divideRaised_a_c35 (R2 : Int32) (x4 : Int32) (t0_0 : Int64) (t0_1 : Int32) (t1_0 : Int32) (t1_1 : Int32) (t2_0 : (Nat → Int32)) (t3_0 : Int32) (t3_1 : Int32) (t4_0 : (Nat → Int32)) (t5_0 : Int32) (t5_1 : Int32) (t6_0 : (Nat → Int32)) (t7_0 : Int32) (t7_1 : Int32) (t8_0 : Int32) (t8_1 : Int32) (t9_0 : (Nat → Int32)) (p57 : (Int32 × Int32 × (Nat → Int32))) (p80 : (Int32 × Int32 × (Nat → Int32))) (p109 : (Int32 × Int32 × Int32 × (Nat → Int32))) : Prop := (True ∧ S_Big_divideBy (220 : Int32) R2 (220 : Int32) (p109.2.1 : Int32) (p109.2.2.1 : Int32) (p109.2.2.2 : (Nat → Int32)) t8_0 t8_1 t9_0 t3_0 t3_1 t4_0) ∧ (S_DW_divideRaised_a_c59 R2 x4 t0_0 t0_1 t1_0 t1_1 t2_0 t3_0 t3_1 t4_0 t5_0 t5_1 t6_0 t7_0 t7_1 t8_0 t8_1 t9_0 p57 p80 p109 (p109.1 : Int32) ((F_Big_divideBy (220 : Int32) R2 (220 : Int32) (p109.2.1 : Int32) (p109.2.2.1 : Int32) (p109.2.2.2 : (Nat → Int32)) t8_0 t8_1 t9_0 t3_0 t3_1 t4_0) : (Int32 × Int32 × (Nat → Int32) × Int32 × Int32 × (Nat → Int32) × Int32 × Int32 × (Nat → Int32))))
def S_DW_divideRaised_a_c22 (R2 : Int32) (x4 : Int32) (t0_0 : Int64) (t0_1 : Int32) (t1_0 : Int32) (t1_1 : Int32) (t2_0 : (Nat → Int32)) (t3_0 : Int32) (t3_1 : Int32) (t4_0 : (Nat → Int32)) (t5_0 : Int32) (t5_1 : Int32) (t6_0 : (Nat → Int32)) (t7_0 : Int32) (t7_1 : Int32) (t8_0 : Int32) (t8_1 : Int32) (t9_0 : (Nat → Int32)) (p57 : (Int32 × Int32 × (Nat → Int32))) (p80 : (Int32 × Int32 × (Nat → Int32))) : Prop := S_DW_divideRaised_a_c35 R2 x4 t0_0 t0_1 t1_0 t1_1 t2_0 t3_0 t3_1 t4_0 t5_0 t5_1 t6_0 t7_0 t7_1 t8_0 t8_1 t9_0 p57 p80 ((F_Big_dropFigures (220 : Int32) (-x4 : Int32) (p80.1 : Int32) (p80.2.1 : Int32) (p80.2.2 : (Nat → Int32))) : (Int32 × Int32 × Int32 × (Nat → Int32)))
def S_DW_divideRaised_a_c11 (R2 : Int32) (x4 : Int32) (t0_0 : Int64) (t0_1 : Int32) (t1_0 : Int32) (t1_1 : Int32) (t2_0 : (Nat → Int32)) (t3_0 : Int32) (t3_1 : Int32) (t4_0 : (Nat → Int32)) (t5_0 : Int32) (t5_1 : Int32) (t6_0 : (Nat → Int32)) (t7_0 : Int32) (t7_1 : Int32) (t8_0 : Int32) (t8_1 : Int32) (t9_0 : (Nat → Int32)) (p57 : (Int32 × Int32 × (Nat → Int32))) : Prop := S_DW_divideRaised_a_c22 R2 x4 t0_0 t0_1 t1_0 t1_1 t2_0 t3_0 t3_1 t4_0 t5_0 t5_1 t6_0 t7_0 t7_1 t8_0 t8_1 t9_0 p57 ((F_Big_timesTen (220 : Int32) x4 (p57.1 : Int32) (p57.2.1 : Int32) (p57.2.2 : (Nat → Int32))) : (Int32 × Int32 × (Nat → Int32)))
def S_DW_divideRaised_a (R2 : Int32) (x4 : Int32) (t0_0 : Int64) (t0_1 : Int32) (t1_0 : Int32) (t1_1 : Int32) (t2_0 : (Nat → Int32)) (t3_0 : Int32) (t3_1 : Int32) (t4_0 : (Nat → Int32)) (t5_0 : Int32) (t5_1 : Int32) (t6_0 : (Nat → Int32)) (t7_0 : Int32) (t7_1 : Int32) (t8_0 : Int32) (t8_1 : Int32) (t9_0 : (Nat → Int32)) : Prop := S_DW_divideRaised_a_c11 R2 x4 t0_0 t0_1 t1_0 t1_1 t2_0 t3_0 t3_1 t4_0 t5_0 t5_1 t6_0 t7_0 t7_1 t8_0 t8_1 t9_0 ((F_Big_copy (220 : Int32) R2 t5_0 t5_1 t6_0 t8_0 t8_1 t9_0) : (Int32 × Int32 × (Nat → Int32)))
set_option maxRecDepth 100000 in
set_option maxHeartbeats 4000000 in
theorem X_DW_divideRaised_a (l : Launch) (D : va_G) (g : Nat → ClassId) (q : Nat → Nat) (ws : va_W) (k2 : Nat) (R2 : Int32) (hB2 : q_isDec (nsh g q) g q k2 R2) (zk2 : (10 ≤ k2 ∧ k2 ≤ 31) ∨ 66 ≤ k2) (x4 : Int32) (ne_k2_10 : k2 ≠ 10) (ne_k2_11 : k2 ≠ 11) (ne_k2_9 : k2 ≠ 9) (ne_k2_8 : k2 ≠ 8) (ne_k2_12 : k2 ≠ 12) (ne_k2_13 : k2 ≠ 13) (ne_k2_22 : k2 ≠ 22) (ne_k2_23 : k2 ≠ 23) (ne_k2_21 : k2 ≠ 21) (ne_k2_20 : k2 ≠ 20) (ne_k2_30 : k2 ≠ 30) (ne_k2_31 : k2 ≠ 31) (ne_k2_29 : k2 ≠ 29) (ne_k2_28 : k2 ≠ 28) (hI : q_I (nsh g q) q ws) (t0_0 : Int64) (t0_1 : Int32) (hT0 : ws[30]? = (some (q 30, .inr (5, [.ref (q 31), .long t0_0, .ref (q 9), .int t0_1])) : Option (Nat × va_E))) (t1_0 : Int32) (t1_1 : Int32) (hT1 : ws[10]? = (some (q 10, .inr (2, [.ref (q 11), .int t1_0, .int t1_1])) : Option (Nat × va_E))) (t2_0 : (Nat → Int32)) (hT2 : ws[11]? = (some (q 11, .inl (g 0, (220 : Int32).toNatClampNeg, .inl t2_0)) : Option (Nat × va_E))) (t3_0 : Int32) (t3_1 : Int32) (hT3 : ws[12]? = (some (q 12, .inr (2, [.ref (q 13), .int t3_0, .int t3_1])) : Option (Nat × va_E))) (t4_0 : (Nat → Int32)) (hT4 : ws[13]? = (some (q 13, .inl (g 0, (220 : Int32).toNatClampNeg, .inl t4_0)) : Option (Nat × va_E))) (t5_0 : Int32) (t5_1 : Int32) (hT5 : ws[22]? = (some (q 22, .inr (2, [.ref (q 23), .int t5_0, .int t5_1])) : Option (Nat × va_E))) (t6_0 : (Nat → Int32)) (hT6 : ws[23]? = (some (q 23, .inl (g 0, (220 : Int32).toNatClampNeg, .inl t6_0)) : Option (Nat × va_E))) (t7_0 : Int32) (t7_1 : Int32) (hT7 : ws[k2]? = (some (q k2, .inr (3, [.ref (q (k2 + 1)), .int t7_0, .int t7_1])) : Option (Nat × va_E))) (t8_0 : Int32) (t8_1 : Int32) (hT8 : ws[k2 + 1]? = (some (q (k2 + 1), .inr (2, [.ref (q (k2 + 2)), .int t8_0, .int t8_1])) : Option (Nat × va_E))) (t9_0 : (Nat → Int32)) (hT9 : ws[k2 + 2]? = (some (q (k2 + 2), .inl (g 0, R2.toNatClampNeg, .inl t9_0)) : Option (Nat × va_E))) (hS : True ∧ S_DW_divideRaised_a R2 x4 t0_0 t0_1 t1_0 t1_1 t2_0 t3_0 t3_1 t4_0 t5_0 t5_1 t6_0 t7_0 t7_1 t8_0 t8_1 t9_0) : q_mV l y_DW_divideRaised prog_4_method_15_code 4 5 0 0 D g [.ref (q 30), .ref (q k2), .ref (q k2), .int x4] ws (fun u => q_I (nsh g q) q u ∧ q_un ws u [10, 11, 12, 13, 22, 23, 30, k2 + 1, k2 + 2] ∧ ∃ (u0_0 : Int64) (u0_1 : Int32) (u1_0 : Int32) (u1_1 : Int32) (u2_0 : (Nat → Int32)) (u3_0 : Int32) (u3_1 : Int32) (u4_0 : (Nat → Int32)) (u5_0 : Int32) (u5_1 : Int32) (u6_0 : (Nat → Int32)) (u8_0 : Int32) (u8_1 : Int32) (u9_0 : (Nat → Int32)), u[30]? = (some (q 30, .inr (5, [.ref (q 31), .long u0_0, .ref (q 9), .int u0_1])) : Option (Nat × va_E)) ∧ u[10]? = (some (q 10, .inr (2, [.ref (q 11), .int u1_0, .int u1_1])) : Option (Nat × va_E)) ∧ u[11]? = (some (q 11, .inl (g 0, (220 : Int32).toNatClampNeg, .inl u2_0)) : Option (Nat × va_E)) ∧ u[12]? = (some (q 12, .inr (2, [.ref (q 13), .int u3_0, .int u3_1])) : Option (Nat × va_E)) ∧ u[13]? = (some (q 13, .inl (g 0, (220 : Int32).toNatClampNeg, .inl u4_0)) : Option (Nat × va_E)) ∧ u[22]? = (some (q 22, .inr (2, [.ref (q 23), .int u5_0, .int u5_1])) : Option (Nat × va_E)) ∧ u[23]? = (some (q 23, .inl (g 0, (220 : Int32).toNatClampNeg, .inl u6_0)) : Option (Nat × va_E)) ∧ u[k2 + 1]? = (some (q (k2 + 1), .inr (2, [.ref (q (k2 + 2)), .int u8_0, .int u8_1])) : Option (Nat × va_E)) ∧ u[k2 + 2]? = (some (q (k2 + 2), .inl (g 0, R2.toNatClampNeg, .inl u9_0)) : Option (Nat × va_E)) ∧ (0 ≤ u3_1.toInt) ∧ (u3_1.toInt ≤ 0) ∧ (t0_0.toInt ≤ u0_0.toInt) ∧ (u0_0.toInt ≤ t0_0.toInt) ∧ (u3_0.toInt ≤ t8_0.toInt + 219) ∧ (u5_1.toInt ≤ t8_1.toInt) ∧ (u8_0.toInt ≤ t8_0.toInt + 218) ∧ (u8_0.toInt ≤ R2.toInt) ∧ (u8_1.toInt ≤ t8_1.toInt) ∧ (u3_1.toInt ≤ u0_1.toInt) ∧ (u0_1.toInt ≤ u3_1.toInt + 1) ∧ (u1_0.toInt ≤ u3_0.toInt) ∧ (u3_1.toInt ≤ u1_0.toInt) ∧ (u3_1.toInt ≤ u1_1.toInt) ∧ (u1_1.toInt ≤ u3_1.toInt) ∧ (u3_0.toInt ≤ u3_1.toInt + 220) ∧ (u5_0.toInt ≤ u3_1.toInt + 220) ∧ (u3_1.toInt ≤ u5_0.toInt) ∧ (u3_1.toInt ≤ u5_1.toInt) ∧ (u3_1.toInt ≤ u8_0.toInt) ∧ (u3_1.toInt ≤ u8_1.toInt) ∧ (u0_0, u0_1, u1_0, u1_1, u2_0, u3_0, u3_1, u4_0, u5_0, u5_1, u6_0, u8_0, u8_1, u9_0) = (F_DW_divideRaised_a R2 x4 t0_0 t0_1 t1_0 t1_1 t2_0 t3_0 t3_1 t4_0 t5_0 t5_1 t6_0 t7_0 t7_1 t8_0 t8_1 t9_0)) := by
  intro sz
  refine q_into (by decide) (Nat.le_of_ble_eq_true rfl) ?_
  intro p e s m below meth c ls hsz C0 V hl
  have hx := C0.1
  have hb := C0.2.1
  have btt0_1 := n_w30 hI hT0
  clear btt0_1
  have btt1_1 := (q_bigW hI (n_b10 g q) hT1).2
  clear btt1_1
  have btt3_1 := (q_bigW hI (n_b12 g q) hT3).2
  clear btt3_1
  have btt5_1 := (q_bigW hI (n_b22 g q) hT5).2
  clear btt5_1
  have btt7_1 := (n_deW hI hB2 hT7).2
  clear btt7_1
  have btt8_1 := (q_bigW hI hB2.2 hT8).2
  clear btt8_1
  have hF : q_un ws ws [10, 11, 12, 13, 22, 23, 30, k2 + 1, k2 + 2] := q_u0
  have hl : lv_has ls 4 [(0, .ref (q 30)), (1, .ref (q k2)), (2, .ref (q k2)), (3, .int x4)] := hl
  refine lv_aload_n hx hb d_4_15_0 rfl (lv_at hl 0 rfl) ?_
  refine q_get (ci := 5) (j := 2) (v := .ref (q 9)) C0 V i_DW rfl rfl hT0 (by decide) w_214 rfl d_4_15_1 ?_
  have hO42 := n_o9 hI
  refine q_get (ci := 4) (j := 6) (v := .ref (q 22)) C0 V i_Mil rfl rfl hO42 (by decide) w_126 rfl d_4_15_4 ?_
  refine lv_aload_n hx hb d_4_15_7 rfl (lv_at hl 1 rfl) ?_
  refine q_get (ci := 3) (j := 0) (v := .ref (q (k2 + 1))) C0 V i_Dec rfl rfl hT7 (by decide) w_171 rfl d_4_15_8 ?_
  refine q_gov V (q_runV (As := [.ref (q (k2 + 1))]) (rest := []) (d := 2) (mc := 0) (ms := 0) (ci := 2) C0 V rfl LV_DW_44 (X_Big_copy l D g q ws 22 220 (n_b22 g q) (by decide) (k2 + 1) R2 hB2.2 (by have z := zk2; omega)  (by have z := ne_k2_21; omega) hI t5_0 t5_1 hT5 t6_0 hT6 t8_0 t8_1 hT8 t9_0 hT9  _) rfl rfl hT5 rfl hl.1 rfl (Nat.le_of_ble_eq_true rfl) ⟨by decide, by decide⟩ ⟨Nat.le_of_ble_eq_true rfl, Nat.le_of_ble_eq_true rfl⟩ d_4_15_11) (fun u43 H locs hp44 V => ?_)
  obtain ⟨hI, hZ9⟩ := hp44
  obtain ⟨hu56, hZ9⟩ := hZ9
  obtain ⟨y46, hZ9⟩ := hZ9
  obtain ⟨y47, hZ9⟩ := hZ9
  obtain ⟨f48, hZ9⟩ := hZ9
  obtain ⟨hO45, hZ9⟩ := hZ9
  obtain ⟨hA49, hZ9⟩ := hZ9
  replace hZ9 := hZ9.2.2.2.2
  obtain ⟨b54, hE55⟩ := hZ9
  replace hO45 : u43[22]? = (some (q 22, .inr (2, [.ref (q 23), .int y46, .int y47])) : Option (Nat × va_E)) := hO45
  replace hA49 : u43[23]? = (some (q 23, .inl (g 0, (220 : Int32).toNatClampNeg, .inl f48)) : Option (Nat × va_E)) := hA49
  obtain ⟨p57, e58⟩ : ∃ z, z = (F_Big_copy (220 : Int32) R2 t5_0 t5_1 t6_0 t8_0 t8_1 t9_0) := ⟨_, rfl⟩
  have e59 : y46 = p57.1 := congrArg (fun z => z.1) (hE55.trans e58.symm)
  have e60 : y47 = p57.2.1 := congrArg (fun z => z.2.1) (hE55.trans e58.symm)
  have e61 : f48 = p57.2.2 := congrArg (fun z => z.2.2) (hE55.trans e58.symm)
  replace b54 : q_F (y47.toInt ≤ t8_1.toInt) := b54
  replace hT0 := (hu56 _ (by decide)).trans hT0
  replace hT1 := (hu56 _ (by decide)).trans hT1
  replace hT2 := (hu56 _ (by decide)).trans hT2
  replace hT3 := (hu56 _ (by decide)).trans hT3
  replace hT4 := (hu56 _ (by decide)).trans hT4
  replace hT7 := (hu56 _ (by have z0 := zk2; simp only [List.mem_cons, List.not_mem_nil, or_false, not_or]; omega)).trans hT7
  replace hT8 := (hu56 _ (by have z0 := zk2; simp only [List.mem_cons, List.not_mem_nil, or_false, not_or]; omega)).trans hT8
  replace hT9 := (hu56 _ (by have z0 := zk2; simp only [List.mem_cons, List.not_mem_nil, or_false, not_or]; omega)).trans hT9
  replace hO42 := (hu56 _ (by decide)).trans hO42
  replace hF := q_uc hF hu56 (by first | exact (q_sk (q_mi 4 rfl) (q_sk (q_mi 5 rfl) q_s0)) | simp)
  have hR62 := (show F_DW_divideRaised_a_c11 R2 x4 t0_0 t0_1 t1_0 t1_1 t2_0 t3_0 t3_1 t4_0 t5_0 t5_1 t6_0 t7_0 t7_1 t8_0 t8_1 t9_0 p57 = (F_DW_divideRaised_a R2 x4 t0_0 t0_1 t1_0 t1_1 t2_0 t3_0 t3_1 t4_0 t5_0 t5_1 t6_0 t7_0 t7_1 t8_0 t8_1 t9_0) from (by rw [e58, F_DW_divideRaised_a.eq_1]))
  have hS63 := (show True ∧ S_DW_divideRaised_a_c11 R2 x4 t0_0 t0_1 t1_0 t1_1 t2_0 t3_0 t3_1 t4_0 t5_0 t5_1 t6_0 t7_0 t7_1 t8_0 t8_1 t9_0 p57 from (by rw [e58]; have h := hS; rw [S_DW_divideRaised_a.eq_1] at h; with_reducible exact h))
  refine lv_aload_n hx hb d_4_15_14 rfl (lv_at hl 0 rfl) ?_
  refine q_get (ci := 5) (j := 2) (v := .ref (q 9)) C0 V i_DW rfl rfl hT0 (by decide) w_214 rfl d_4_15_15 ?_
  refine q_get (ci := 4) (j := 6) (v := .ref (q 22)) C0 V i_Mil rfl rfl hO42 (by decide) w_126 rfl d_4_15_18 ?_
  refine lv_iload_n hx hb d_4_15_21 rfl (lv_at hl 3 rfl) ?_
  refine q_gov V (q_runV (As := [.int x4]) (rest := []) (d := 2) (mc := 0) (ms := 0) (ci := 2) C0 V rfl LV_DW_77 (X_Big_timesTen l D g q u43 22 220 (n_b22 g q) (by decide) x4 hI y46 y47 hO45 f48 hA49  _) rfl rfl hO45 rfl hl.1 rfl (Nat.le_of_ble_eq_true rfl) ⟨by decide, by decide⟩ ⟨Nat.le_of_ble_eq_true rfl, Nat.le_of_ble_eq_true rfl⟩ d_4_15_22) (fun u67 H locs hp68 V => ?_)
  obtain ⟨hI, hZ9⟩ := hp68
  obtain ⟨hu79, hZ9⟩ := hZ9
  obtain ⟨y70, hZ9⟩ := hZ9
  obtain ⟨y71, hZ9⟩ := hZ9
  obtain ⟨f72, hZ9⟩ := hZ9
  obtain ⟨hO69, hZ9⟩ := hZ9
  obtain ⟨hA73, hZ9⟩ := hZ9
  replace hZ9 := hZ9.2.2.2
  obtain ⟨b77, hE78⟩ := hZ9
  replace hO69 : u67[22]? = (some (q 22, .inr (2, [.ref (q 23), .int y70, .int y71])) : Option (Nat × va_E)) := hO69
  replace hA73 : u67[23]? = (some (q 23, .inl (g 0, (220 : Int32).toNatClampNeg, .inl f72)) : Option (Nat × va_E)) := hA73
  obtain ⟨p80, e81⟩ : ∃ z, z = (F_Big_timesTen (220 : Int32) x4 y46 y47 f48) := ⟨_, rfl⟩
  have e82 : y70 = p80.1 := congrArg (fun z => z.1) (hE78.trans e81.symm)
  have e83 : y71 = p80.2.1 := congrArg (fun z => z.2.1) (hE78.trans e81.symm)
  have e84 : f72 = p80.2.2 := congrArg (fun z => z.2.2) (hE78.trans e81.symm)
  replace b77 : q_F (y71.toInt ≤ y47.toInt) := b77
  replace hT0 := (hu79 _ (by decide)).trans hT0
  replace hT1 := (hu79 _ (by decide)).trans hT1
  replace hT2 := (hu79 _ (by decide)).trans hT2
  replace hT3 := (hu79 _ (by decide)).trans hT3
  replace hT4 := (hu79 _ (by decide)).trans hT4
  replace hT7 := (hu79 _ (by have z0 := zk2; simp only [List.mem_cons, List.not_mem_nil, or_false, not_or]; omega)).trans hT7
  replace hT8 := (hu79 _ (by have z0 := zk2; simp only [List.mem_cons, List.not_mem_nil, or_false, not_or]; omega)).trans hT8
  replace hT9 := (hu79 _ (by have z0 := zk2; simp only [List.mem_cons, List.not_mem_nil, or_false, not_or]; omega)).trans hT9
  replace hO42 := (hu79 _ (by decide)).trans hO42
  replace hF := q_uc hF hu79 (by first | exact (q_sk (q_mi 4 rfl) (q_sk (q_mi 5 rfl) q_s0)) | simp)
  have hR85 := (show F_DW_divideRaised_a_c22 R2 x4 t0_0 t0_1 t1_0 t1_1 t2_0 t3_0 t3_1 t4_0 t5_0 t5_1 t6_0 t7_0 t7_1 t8_0 t8_1 t9_0 p57 p80 = (F_DW_divideRaised_a R2 x4 t0_0 t0_1 t1_0 t1_1 t2_0 t3_0 t3_1 t4_0 t5_0 t5_1 t6_0 t7_0 t7_1 t8_0 t8_1 t9_0) from Eq.trans (by rw [e81, e61, e60, e59, F_DW_divideRaised_a_c11.eq_1]) hR62)
  have hS86 := (show True ∧ S_DW_divideRaised_a_c22 R2 x4 t0_0 t0_1 t1_0 t1_1 t2_0 t3_0 t3_1 t4_0 t5_0 t5_1 t6_0 t7_0 t7_1 t8_0 t8_1 t9_0 p57 p80 from (by rw [e81, e61, e60, e59]; have h := hS63; rw [S_DW_divideRaised_a_c11.eq_1] at h; with_reducible exact h))
  refine lv_aload_n hx hb d_4_15_25 rfl (lv_at hl 0 rfl) ?_
  refine lv_aload_n hx hb d_4_15_26 rfl (lv_at hl 0 rfl) ?_
  refine q_get (ci := 5) (j := 2) (v := .ref (q 9)) C0 V i_DW rfl rfl hT0 (by decide) w_214 rfl d_4_15_27 ?_
  refine q_get (ci := 4) (j := 6) (v := .ref (q 22)) C0 V i_Mil rfl rfl hO42 (by decide) w_126 rfl d_4_15_30 ?_
  refine lv_iload_n hx hb d_4_15_33 rfl (lv_at hl 3 rfl) ?_
  refine lv_ineg hx hb d_4_15_34 ?_
  obtain ⟨a90, e91⟩ := q_nm (-x4 : Int32)
  refine q_ti (v := a90) e91 ?_
  refine q_goi V (q_runV (As := [.int a90]) (rest := [.ref (q 30)]) (d := 3) (mc := 0) (ms := 0) (ci := 2) C0 V rfl LV_DW_149 (X_Big_dropFigures l D g q u67 22 220 (n_b22 g q) (by decide) a90 hI y70 y71 hO69 f72 hA73  _) rfl rfl hO69 rfl hl.1 rfl (Nat.le_of_ble_eq_true rfl) ⟨by decide, by decide⟩ ⟨Nat.le_of_ble_eq_true rfl, Nat.le_of_ble_eq_true rfl⟩ d_4_15_35) (fun a94 u92 H locs hp93 V => ?_)
  obtain ⟨hI, hZ9⟩ := hp93
  obtain ⟨hu108, hZ9⟩ := hZ9
  obtain ⟨y96, hZ9⟩ := hZ9
  obtain ⟨y97, hZ9⟩ := hZ9
  obtain ⟨f98, hZ9⟩ := hZ9
  obtain ⟨hO95, hZ9⟩ := hZ9
  obtain ⟨hA99, hZ9⟩ := hZ9
  obtain ⟨b100, hZ9⟩ := hZ9
  obtain ⟨b101, hZ9⟩ := hZ9
  replace hZ9 := hZ9.2.2.2.2
  obtain ⟨b106, hE107⟩ := hZ9
  replace hO95 : u92[22]? = (some (q 22, .inr (2, [.ref (q 23), .int y96, .int y97])) : Option (Nat × va_E)) := hO95
  replace hA99 : u92[23]? = (some (q 23, .inl (g 0, (220 : Int32).toNatClampNeg, .inl f98)) : Option (Nat × va_E)) := hA99
  obtain ⟨p109, e110⟩ : ∃ z, z = (F_Big_dropFigures (220 : Int32) a90 y70 y71 f72) := ⟨_, rfl⟩
  have e111 : a94 = p109.1 := congrArg (fun z => z.1) (hE107.trans e110.symm)
  have e112 : y96 = p109.2.1 := congrArg (fun z => z.2.1) (hE107.trans e110.symm)
  have e113 : y97 = p109.2.2.1 := congrArg (fun z => z.2.2.1) (hE107.trans e110.symm)
  have e114 : f98 = p109.2.2.2 := congrArg (fun z => z.2.2.2) (hE107.trans e110.symm)
  replace b100 : q_F (0 ≤ a94.toInt) := b100
  replace b101 : q_F (a94.toInt ≤ 1) := b101
  replace b106 : q_F (y97.toInt ≤ y71.toInt) := b106
  replace hT0 := (hu108 _ (by decide)).trans hT0
  replace hT1 := (hu108 _ (by decide)).trans hT1
  replace hT2 := (hu108 _ (by decide)).trans hT2
  replace hT3 := (hu108 _ (by decide)).trans hT3
  replace hT4 := (hu108 _ (by decide)).trans hT4
  replace hT7 := (hu108 _ (by have z0 := zk2; simp only [List.mem_cons, List.not_mem_nil, or_false, not_or]; omega)).trans hT7
  replace hT8 := (hu108 _ (by have z0 := zk2; simp only [List.mem_cons, List.not_mem_nil, or_false, not_or]; omega)).trans hT8
  replace hT9 := (hu108 _ (by have z0 := zk2; simp only [List.mem_cons, List.not_mem_nil, or_false, not_or]; omega)).trans hT9
  replace hO42 := (hu108 _ (by decide)).trans hO42
  replace hF := q_uc hF hu108 (by first | exact (q_sk (q_mi 4 rfl) (q_sk (q_mi 5 rfl) q_s0)) | simp)
  have hR115 := (show F_DW_divideRaised_a_c35 R2 x4 t0_0 t0_1 t1_0 t1_1 t2_0 t3_0 t3_1 t4_0 t5_0 t5_1 t6_0 t7_0 t7_1 t8_0 t8_1 t9_0 p57 p80 p109 = (F_DW_divideRaised_a R2 x4 t0_0 t0_1 t1_0 t1_1 t2_0 t3_0 t3_1 t4_0 t5_0 t5_1 t6_0 t7_0 t7_1 t8_0 t8_1 t9_0) from Eq.trans (by rw [e110, ← e91, e84, e83, e82, F_DW_divideRaised_a_c22.eq_1]) hR85)
  have hS116 := (show True ∧ S_DW_divideRaised_a_c35 R2 x4 t0_0 t0_1 t1_0 t1_1 t2_0 t3_0 t3_1 t4_0 t5_0 t5_1 t6_0 t7_0 t7_1 t8_0 t8_1 t9_0 p57 p80 p109 from (by rw [e110, ← e91, e84, e83, e82]; have h := hS86; rw [S_DW_divideRaised_a_c22.eq_1] at h; with_reducible exact h))
  refine q_put (ci := 5) (j := 3) (v := .int a94) (ty := .boolean) C0 V i_DW o_DW n_DW rfl rfl hT0 (by decide) w_215 rfl rfl (q_nz01 (q_Ile (x := 0) (y := a94.toInt) (by decide) rfl (by first | with_reducible exact q_fe b100 | (have t1 : 0 ≤ a94.toInt := b100; omega))) (q_Ile (x := a94.toInt) (y := 1) rfl (by decide) (by first | with_reducible exact q_fe b101 | (have t1 : a94.toInt ≤ 1 := b101; omega)))) (q_fz01 (q_Ile (x := 0) (y := a94.toInt) (by decide) rfl (by first | with_reducible exact q_fe b100 | (have t1 : 0 ≤ a94.toInt := b100; omega))) (q_Ile (x := a94.toInt) (y := 1) rfl (by decide) (by first | with_reducible exact q_fe b101 | (have t1 : a94.toInt ≤ 1 := b101; omega)))) (Nat.le_of_ble_eq_true rfl) d_4_15_38 (fun H locs w120 hu121 hT0 V => ?_)
  replace hT0 : w120[30]? = (some (q 30, .inr (5, [.ref (q 31), .long t0_0, .ref (q 9), .int a94])) : Option (Nat × va_E)) := hT0
  replace hI := n_p30 hI hu121 hT0 ⟨(by first | with_reducible exact q_fe b100 | (have t1 : 0 ≤ a94.toInt := b100; omega)), (by first | with_reducible exact q_fe b101 | (have t1 : a94.toInt ≤ 1 := b101; omega))⟩
  replace hT1 := (hu121 _ (by decide)).trans hT1
  replace hT2 := (hu121 _ (by decide)).trans hT2
  replace hT3 := (hu121 _ (by decide)).trans hT3
  replace hT4 := (hu121 _ (by decide)).trans hT4
  replace hO95 := (hu121 _ (by decide)).trans hO95
  replace hA99 := (hu121 _ (by decide)).trans hA99
  replace hT7 := (hu121 _ (by have z := ne_k2_30; omega)).trans hT7
  replace hT8 := (hu121 _ (by have z := ne_k2_29; omega)).trans hT8
  replace hT9 := (hu121 _ (by have z := ne_k2_28; omega)).trans hT9
  replace hO42 := (hu121 _ (by decide)).trans hO42
  replace hF := q_us hF hu121 (by simp)
  refine lv_aload_n hx hb d_4_15_41 rfl (lv_at hl 0 rfl) ?_
  refine q_get (ci := 5) (j := 2) (v := .ref (q 9)) C0 V i_DW rfl rfl hT0 (by decide) w_214 rfl d_4_15_42 ?_
  refine q_get (ci := 4) (j := 6) (v := .ref (q 22)) C0 V i_Mil rfl rfl hO42 (by decide) w_126 rfl d_4_15_45 ?_
  refine lv_aload_n hx hb d_4_15_48 rfl (lv_at hl 2 rfl) ?_
  refine q_get (ci := 3) (j := 0) (v := .ref (q (k2 + 1))) C0 V i_Dec rfl rfl hT7 (by decide) w_171 rfl d_4_15_49 ?_
  refine lv_aload_n hx hb d_4_15_52 rfl (lv_at hl 0 rfl) ?_
  refine q_get (ci := 5) (j := 2) (v := .ref (q 9)) C0 V i_DW rfl rfl hT0 (by decide) w_214 rfl d_4_15_53 ?_
  refine q_get (ci := 4) (j := 1) (v := .ref (q 12)) C0 V i_Mil rfl rfl hO42 (by decide) w_115 rfl d_4_15_56 ?_
  have ob122 : True ∧ S_Big_divideBy (220 : Int32) R2 (220 : Int32) y96 y97 f98 t8_0 t8_1 t9_0 t3_0 t3_1 t4_0 := (by rw [e114, e113, e112]; have h := hS116; rw [S_DW_divideRaised_a_c35.eq_1] at h; with_reducible exact h.2.1)
  refine q_gov V (q_runV (As := [.ref (q (k2 + 1)), .ref (q 12)]) (rest := []) (d := 4) (mc := 0) (ms := 0) (ci := 2) C0 V rfl LV_DW_109 (X_Big_divideBy l D g q w120 22 220 (n_b22 g q) (by decide) (k2 + 1) R2 hB2.2 (by have z := zk2; omega) 12 220 (n_b12 g q) (by decide)  (by have z := ne_k2_21; omega) (by decide) (by have z := ne_k2_11; omega) hI y96 y97 hO95 f98 hA99 t8_0 t8_1 hT8 t9_0 hT9 t3_0 t3_1 hT3 t4_0 hT4 ob122 _) rfl rfl hO95 rfl hl.1 rfl (Nat.le_of_ble_eq_true rfl) ⟨by decide, by decide⟩ ⟨Nat.le_of_ble_eq_true rfl, Nat.le_of_ble_eq_true rfl⟩ d_4_15_59) (fun u123 H locs hp124 V => ?_)
  obtain ⟨hI, hZ9⟩ := hp124
  obtain ⟨hu156, hZ9⟩ := hZ9
  obtain ⟨y126, hZ9⟩ := hZ9
  obtain ⟨y127, hZ9⟩ := hZ9
  obtain ⟨f128, hZ9⟩ := hZ9
  obtain ⟨y131, hZ9⟩ := hZ9
  obtain ⟨y132, hZ9⟩ := hZ9
  obtain ⟨f133, hZ9⟩ := hZ9
  obtain ⟨y136, hZ9⟩ := hZ9
  obtain ⟨y137, hZ9⟩ := hZ9
  obtain ⟨f138, hZ9⟩ := hZ9
  obtain ⟨hO125, hZ9⟩ := hZ9
  obtain ⟨hA129, hZ9⟩ := hZ9
  obtain ⟨hO130, hZ9⟩ := hZ9
  obtain ⟨hA134, hZ9⟩ := hZ9
  obtain ⟨hO135, hZ9⟩ := hZ9
  obtain ⟨hA139, hZ9⟩ := hZ9
  obtain ⟨b140, hZ9⟩ := hZ9
  obtain ⟨b141, hZ9⟩ := hZ9
  obtain ⟨b142, hZ9⟩ := hZ9
  obtain ⟨b143, hZ9⟩ := hZ9
  obtain ⟨b144, hZ9⟩ := hZ9
  obtain ⟨b145, hZ9⟩ := hZ9
  obtain ⟨b146, hZ9⟩ := hZ9
  obtain ⟨b147, hZ9⟩ := hZ9
  replace hZ9 := hZ9.2
  obtain ⟨b149, hZ9⟩ := hZ9
  obtain ⟨b150, hZ9⟩ := hZ9
  obtain ⟨b151, hZ9⟩ := hZ9
  obtain ⟨b152, hZ9⟩ := hZ9
  obtain ⟨b153, hZ9⟩ := hZ9
  obtain ⟨-, hE155⟩ := hZ9
  replace hO125 : u123[22]? = (some (q 22, .inr (2, [.ref (q 23), .int y126, .int y127])) : Option (Nat × va_E)) := hO125
  replace hA129 : u123[23]? = (some (q 23, .inl (g 0, (220 : Int32).toNatClampNeg, .inl f128)) : Option (Nat × va_E)) := hA129
  replace hO130 : u123[k2 + 1]? = (some (q (k2 + 1), .inr (2, [.ref (q (k2 + 2)), .int y131, .int y132])) : Option (Nat × va_E)) := hO130
  replace hA134 : u123[k2 + 2]? = (some (q (k2 + 2), .inl (g 0, R2.toNatClampNeg, .inl f133)) : Option (Nat × va_E)) := hA134
  replace hO135 : u123[12]? = (some (q 12, .inr (2, [.ref (q 13), .int y136, .int y137])) : Option (Nat × va_E)) := hO135
  replace hA139 : u123[13]? = (some (q 13, .inl (g 0, (220 : Int32).toNatClampNeg, .inl f138)) : Option (Nat × va_E)) := hA139
  obtain ⟨p157, e158⟩ : ∃ z, z = (F_Big_divideBy (220 : Int32) R2 (220 : Int32) y96 y97 f98 t8_0 t8_1 t9_0 t3_0 t3_1 t4_0) := ⟨_, rfl⟩
  have e159 : y126 = p157.1 := congrArg (fun z => z.1) (hE155.trans e158.symm)
  have e160 : y127 = p157.2.1 := congrArg (fun z => z.2.1) (hE155.trans e158.symm)
  have e161 : f128 = p157.2.2.1 := congrArg (fun z => z.2.2.1) (hE155.trans e158.symm)
  have e162 : y131 = p157.2.2.2.1 := congrArg (fun z => z.2.2.2.1) (hE155.trans e158.symm)
  have e163 : y132 = p157.2.2.2.2.1 := congrArg (fun z => z.2.2.2.2.1) (hE155.trans e158.symm)
  have e164 : f133 = p157.2.2.2.2.2.1 := congrArg (fun z => z.2.2.2.2.2.1) (hE155.trans e158.symm)
  have e165 : y136 = p157.2.2.2.2.2.2.1 := congrArg (fun z => z.2.2.2.2.2.2.1) (hE155.trans e158.symm)
  have e166 : y137 = p157.2.2.2.2.2.2.2.1 := congrArg (fun z => z.2.2.2.2.2.2.2.1) (hE155.trans e158.symm)
  have e167 : f138 = p157.2.2.2.2.2.2.2.2 := congrArg (fun z => z.2.2.2.2.2.2.2.2) (hE155.trans e158.symm)
  replace b140 : q_F (0 ≤ y137.toInt) := b140
  replace b141 : q_F (y137.toInt ≤ 0) := b141
  replace b142 : q_F (y126.toInt ≤ 220) := b142
  replace b143 : q_F (y127.toInt ≤ y97.toInt) := b143
  replace b144 : q_F (y131.toInt ≤ t8_0.toInt + 218) := b144
  replace b145 : q_F (y131.toInt ≤ R2.toInt) := b145
  replace b146 : q_F (y132.toInt ≤ t8_1.toInt) := b146
  replace b147 : q_F (y136.toInt ≤ t8_0.toInt + 219) := b147
  replace b149 : q_F (y136.toInt ≤ 220) := b149
  replace b150 : q_F (y137.toInt ≤ y126.toInt) := b150
  replace b151 : q_F (y137.toInt ≤ y127.toInt) := b151
  replace b152 : q_F (y137.toInt ≤ y131.toInt) := b152
  replace b153 : q_F (y137.toInt ≤ y132.toInt) := b153
  replace hT0 := (hu156 _ (by have z0 := zk2; simp only [List.mem_cons, List.not_mem_nil, or_false, not_or]; omega)).trans hT0
  replace hT1 := (hu156 _ (by have z0 := zk2; simp only [List.mem_cons, List.not_mem_nil, or_false, not_or]; omega)).trans hT1
  replace hT2 := (hu156 _ (by have z0 := zk2; simp only [List.mem_cons, List.not_mem_nil, or_false, not_or]; omega)).trans hT2
  replace hO42 := (hu156 _ (by have z0 := zk2; simp only [List.mem_cons, List.not_mem_nil, or_false, not_or]; omega)).trans hO42
  replace hF := q_uc hF hu156 (by first | exact (q_sk (q_mi 4 rfl) (q_sk (q_mi 5 rfl) (q_sk (q_mi 7 rfl) (q_sk (q_mi 8 rfl) (q_sk (q_mi 2 rfl) (q_sk (q_mi 3 rfl) q_s0)))))) | simp)
  have hR168 := (show F_DW_divideRaised_a_c59 R2 x4 t0_0 t0_1 t1_0 t1_1 t2_0 t3_0 t3_1 t4_0 t5_0 t5_1 t6_0 t7_0 t7_1 t8_0 t8_1 t9_0 p57 p80 p109 a94 p157 = (F_DW_divideRaised_a R2 x4 t0_0 t0_1 t1_0 t1_1 t2_0 t3_0 t3_1 t4_0 t5_0 t5_1 t6_0 t7_0 t7_1 t8_0 t8_1 t9_0) from Eq.trans (by rw [e158, e114, e113, e112, e111, F_DW_divideRaised_a_c35.eq_1]) hR115)
  have hS169 := (show True ∧ S_DW_divideRaised_a_c59 R2 x4 t0_0 t0_1 t1_0 t1_1 t2_0 t3_0 t3_1 t4_0 t5_0 t5_1 t6_0 t7_0 t7_1 t8_0 t8_1 t9_0 p57 p80 p109 a94 p157 from (by rw [e158, e114, e113, e112, e111]; have h := hS116; rw [S_DW_divideRaised_a_c35.eq_1] at h; replace h := q_s2 h; with_reducible exact h))
  refine lv_aload_n hx hb d_4_15_62 rfl (lv_at hl 0 rfl) ?_
  refine lv_dup hx hb d_4_15_63 rfl ?_
  refine q_get (ci := 5) (j := 3) (v := .int a94) C0 V i_DW rfl rfl hT0 (by decide) w_215 rfl d_4_15_64 ?_
  refine lv_aload_n hx hb d_4_15_67 rfl (lv_at hl 0 rfl) ?_
  refine q_get (ci := 5) (j := 2) (v := .ref (q 9)) C0 V i_DW rfl rfl hT0 (by decide) w_214 rfl d_4_15_68 ?_
  refine q_get (ci := 4) (j := 6) (v := .ref (q 22)) C0 V i_Mil rfl rfl hO42 (by decide) w_126 rfl d_4_15_71 ?_
  refine q_get (ci := 2) (j := 1) (v := .int y126) C0 V i_Big rfl rfl hO125 (by decide) w_90 rfl d_4_15_74 ?_
  refine lv_if_le (tgt := 84) hx hb d_4_15_77 (by decide) (fun c173 => ?_) (fun c173 => ?_)
  ·
    refine lv_iconst (v := 0) hx hb d_4_15_84 (by decide) ?_
    refine lv_ior hx hb d_4_15_85 ?_
    obtain ⟨a175, e176⟩ := q_nm (a94 ||| 0 : Int32)
    refine q_ti (v := a175) e176 ?_
    have b177 : q_F (0 ≤ a175.toInt ∧ a175.toInt ≤ 1) := (by rw [← e176]; show 0 ≤ (a94 ||| 0 : Int32).toInt ∧ (a94 ||| 0 : Int32).toInt ≤ 1; exact s_or' (x := a94) (y := 0) 1 (by decide) 1 (by decide) ⟨(by have t1 : 0 ≤ a94.toInt := b100; have t2 : a94.toInt ≤ 1 := b101; omega), (by have t1 : 0 ≤ a94.toInt := b100; have t2 : a94.toInt ≤ 1 := b101; omega)⟩ ⟨(by have z7 : (0 : Int32).toInt = 0 := rfl; omega), (by have z7 : (0 : Int32).toInt = 0 := rfl; omega)⟩)
    refine q_put (ci := 5) (j := 3) (v := .int a175) (ty := .boolean) C0 V i_DW o_DW n_DW rfl rfl hT0 (by decide) w_215 rfl rfl (q_nz01 (q_Ile (x := 0) (y := a175.toInt) (by decide) rfl (by first | with_reducible exact (q_fe b177).2 | with_reducible exact (q_fe b177).1 | (have t1 : 0 ≤ a175.toInt ∧ a175.toInt ≤ 1 := b177; omega))) (q_Ile (x := a175.toInt) (y := 1) rfl (by decide) (by first | with_reducible exact (q_fe b177).2 | with_reducible exact (q_fe b177).1 | (have t1 : 0 ≤ a175.toInt ∧ a175.toInt ≤ 1 := b177; omega)))) (q_fz01 (q_Ile (x := 0) (y := a175.toInt) (by decide) rfl (by first | with_reducible exact (q_fe b177).2 | with_reducible exact (q_fe b177).1 | (have t1 : 0 ≤ a175.toInt ∧ a175.toInt ≤ 1 := b177; omega))) (q_Ile (x := a175.toInt) (y := 1) rfl (by decide) (by first | with_reducible exact (q_fe b177).2 | with_reducible exact (q_fe b177).1 | (have t1 : 0 ≤ a175.toInt ∧ a175.toInt ≤ 1 := b177; omega)))) (Nat.le_of_ble_eq_true rfl) d_4_15_86 (fun H locs w178 hu179 hT0 V => ?_)
    replace hT0 : w178[30]? = (some (q 30, .inr (5, [.ref (q 31), .long t0_0, .ref (q 9), .int a175])) : Option (Nat × va_E)) := hT0
    replace hI := n_p30 hI hu179 hT0 (by first | with_reducible exact q_fe b177 | exact ⟨(by have t1 : 0 ≤ a175.toInt ∧ a175.toInt ≤ 1 := b177; omega), (by have t1 : 0 ≤ a175.toInt ∧ a175.toInt ≤ 1 := b177; omega)⟩)
    replace hT1 := (hu179 _ (by decide)).trans hT1
    replace hT2 := (hu179 _ (by decide)).trans hT2
    replace hO135 := (hu179 _ (by decide)).trans hO135
    replace hA139 := (hu179 _ (by decide)).trans hA139
    replace hO125 := (hu179 _ (by decide)).trans hO125
    replace hA129 := (hu179 _ (by decide)).trans hA129
    replace hO130 := (hu179 _ (by have z := ne_k2_29; omega)).trans hO130
    replace hA134 := (hu179 _ (by have z := ne_k2_28; omega)).trans hA134
    replace hO42 := (hu179 _ (by decide)).trans hO42
    replace hF := q_us hF hu179 (by simp)
    refine lv_aload_n hx hb d_4_15_89 rfl (lv_at hl 0 rfl) ?_
    refine q_get (ci := 5) (j := 2) (v := .ref (q 9)) C0 V i_DW rfl rfl hT0 (by decide) w_214 rfl d_4_15_90 ?_
    refine q_get (ci := 4) (j := 0) (v := .ref (q 10)) C0 V i_Mil rfl rfl hO42 (by decide) w_111 rfl d_4_15_93 ?_
    refine lv_aload_n hx hb d_4_15_96 rfl (lv_at hl 0 rfl) ?_
    refine q_get (ci := 5) (j := 2) (v := .ref (q 9)) C0 V i_DW rfl rfl hT0 (by decide) w_214 rfl d_4_15_97 ?_
    refine q_get (ci := 4) (j := 1) (v := .ref (q 12)) C0 V i_Mil rfl rfl hO42 (by decide) w_115 rfl d_4_15_100 ?_
    refine q_gov V (q_runV (As := [.ref (q 12)]) (rest := []) (d := 2) (mc := 0) (ms := 0) (ci := 2) C0 V rfl LV_DW_44 (X_Big_copy l D g q w178 10 220 (n_b10 g q) (by decide) 12 220 (n_b12 g q) (by decide)  (by decide) hI t1_0 t1_1 hT1 t2_0 hT2 y136 y137 hO135 f138 hA139  _) rfl rfl hT1 rfl hl.1 rfl (Nat.le_of_ble_eq_true rfl) ⟨by decide, by decide⟩ ⟨Nat.le_of_ble_eq_true rfl, Nat.le_of_ble_eq_true rfl⟩ d_4_15_103) (fun u180 H locs hp181 V => ?_)
    obtain ⟨hI, hZ9⟩ := hp181
    obtain ⟨hu193, hZ9⟩ := hZ9
    obtain ⟨y183, hZ9⟩ := hZ9
    obtain ⟨y184, hZ9⟩ := hZ9
    obtain ⟨f185, hZ9⟩ := hZ9
    obtain ⟨hO182, hZ9⟩ := hZ9
    obtain ⟨hA186, hZ9⟩ := hZ9
    obtain ⟨b187, hZ9⟩ := hZ9
    obtain ⟨b188, hZ9⟩ := hZ9
    replace hZ9 := hZ9.2
    obtain ⟨b190, hZ9⟩ := hZ9
    obtain ⟨b191, hE192⟩ := hZ9
    replace hO182 : u180[10]? = (some (q 10, .inr (2, [.ref (q 11), .int y183, .int y184])) : Option (Nat × va_E)) := hO182
    replace hA186 : u180[11]? = (some (q 11, .inl (g 0, (220 : Int32).toNatClampNeg, .inl f185)) : Option (Nat × va_E)) := hA186
    obtain ⟨p194, e195⟩ : ∃ z, z = (F_Big_copy (220 : Int32) (220 : Int32) t1_0 t1_1 t2_0 y136 y137 f138) := ⟨_, rfl⟩
    have e196 : y183 = p194.1 := congrArg (fun z => z.1) (hE192.trans e195.symm)
    have e197 : y184 = p194.2.1 := congrArg (fun z => z.2.1) (hE192.trans e195.symm)
    have e198 : f185 = p194.2.2 := congrArg (fun z => z.2.2) (hE192.trans e195.symm)
    replace b187 : q_F (0 ≤ y183.toInt) := b187
    replace b188 : q_F (y183.toInt ≤ y136.toInt) := b188
    replace b190 : q_F (y137.toInt ≤ y184.toInt) := b190
    replace b191 : q_F (y184.toInt ≤ y137.toInt) := b191
    replace hT0 := (hu193 _ (by decide)).trans hT0
    replace hO135 := (hu193 _ (by decide)).trans hO135
    replace hA139 := (hu193 _ (by decide)).trans hA139
    replace hO125 := (hu193 _ (by decide)).trans hO125
    replace hA129 := (hu193 _ (by decide)).trans hA129
    replace hO130 := (hu193 _ (by have z0 := zk2; simp only [List.mem_cons, List.not_mem_nil, or_false, not_or]; omega)).trans hO130
    replace hA134 := (hu193 _ (by have z0 := zk2; simp only [List.mem_cons, List.not_mem_nil, or_false, not_or]; omega)).trans hA134
    replace hF := q_uc hF hu193 (by first | exact (q_sk (q_mi 0 rfl) (q_sk (q_mi 1 rfl) q_s0)) | simp)
    have hR199 := (show F_DW_divideRaised_a_c103 R2 x4 t0_0 t0_1 t1_0 t1_1 t2_0 t3_0 t3_1 t4_0 t5_0 t5_1 t6_0 t7_0 t7_1 t8_0 t8_1 t9_0 p57 p80 p109 a94 p157 a175 y136 y137 f138 y126 y127 f128 y131 y132 f133 p194 = (F_DW_divideRaised_a R2 x4 t0_0 t0_1 t1_0 t1_1 t2_0 t3_0 t3_1 t4_0 t5_0 t5_1 t6_0 t7_0 t7_1 t8_0 t8_1 t9_0) from Eq.trans (by have c173x := c173; rw [e159] at c173x; rw [e195, ← e176, e167, e166, e165, e164, e163, e162, e161, e160, e159, F_DW_divideRaised_a_c59.eq_1, if_pos c173x]) hR168)
    have hS200 := (show True ∧ S_DW_divideRaised_a_c103 R2 x4 t0_0 t0_1 t1_0 t1_1 t2_0 t3_0 t3_1 t4_0 t5_0 t5_1 t6_0 t7_0 t7_1 t8_0 t8_1 t9_0 p57 p80 p109 a94 p157 a175 y136 y137 f138 y126 y127 f128 y131 y132 f133 p194 from (by rw [e195, ← e176, e167, e166, e165, e164, e163, e162, e161, e160, e159]; have h := hS169; rw [S_DW_divideRaised_a_c59.eq_1] at h; have c173x := c173; rw [e159] at c173x; rw [if_pos c173x] at h; with_reducible exact h))
    exact q_retv C0 V (⟨hI, hF, t0_0, a175, y183, y184, f185, y136, y137, f138, y126, y127, f128, y131, y132, f133, hT0, hO182, hA186, hO135, hA139, hO125, hA129, hO130, hA134, (show 0 ≤ y137.toInt from (by first | with_reducible exact q_fe b140 | (have t1 : 0 ≤ y137.toInt := b140; omega))), (show y137.toInt ≤ 0 from (by first | with_reducible exact q_fe b141 | (have t1 : y137.toInt ≤ 0 := b141; omega))), (show t0_0.toInt ≤ t0_0.toInt from (by omega)), (show t0_0.toInt ≤ t0_0.toInt from (by omega)), (show y136.toInt ≤ t8_0.toInt + 219 from (by first | with_reducible exact q_fe b147 | (have t1 : y136.toInt ≤ t8_0.toInt + 219 := b147; omega))), (show y127.toInt ≤ t8_1.toInt from (by have t1 : y47.toInt ≤ t8_1.toInt := b54; have t2 : y71.toInt ≤ y47.toInt := b77; have t3 : y97.toInt ≤ y71.toInt := b106; have t4 : y127.toInt ≤ y97.toInt := b143; omega)), (show y131.toInt ≤ t8_0.toInt + 218 from (by first | with_reducible exact q_fe b144 | (have t1 : y131.toInt ≤ t8_0.toInt + 218 := b144; omega))), (show y131.toInt ≤ R2.toInt from (by first | with_reducible exact q_fe b145 | (have t1 : y131.toInt ≤ R2.toInt := b145; omega))), (show y132.toInt ≤ t8_1.toInt from (by first | with_reducible exact q_fe b146 | (have t1 : y132.toInt ≤ t8_1.toInt := b146; omega))), (show y137.toInt ≤ a175.toInt from (by have t1 : y137.toInt ≤ 0 := b141; have t2 : 0 ≤ a175.toInt ∧ a175.toInt ≤ 1 := b177; omega)), (show a175.toInt ≤ y137.toInt + 1 from (by have t1 : 0 ≤ y137.toInt := b140; have t2 : 0 ≤ a175.toInt ∧ a175.toInt ≤ 1 := b177; omega)), (show y183.toInt ≤ y136.toInt from (by first | with_reducible exact q_fe b188 | (have t1 : y183.toInt ≤ y136.toInt := b188; omega))), (show y137.toInt ≤ y183.toInt from (by have t1 : y137.toInt ≤ 0 := b141; have t2 : 0 ≤ y183.toInt := b187; omega)), (show y137.toInt ≤ y184.toInt from (by first | with_reducible exact q_fe b190 | (have t1 : y137.toInt ≤ y184.toInt := b190; omega))), (show y184.toInt ≤ y137.toInt from (by first | with_reducible exact q_fe b191 | (have t1 : y184.toInt ≤ y137.toInt := b191; omega))), (show y136.toInt ≤ y137.toInt + 220 from (by have t1 : 0 ≤ y137.toInt := b140; have t2 : y136.toInt ≤ 220 := b149; omega)), (show y126.toInt ≤ y137.toInt + 220 from (by have t1 : 0 ≤ y137.toInt := b140; have t2 : y126.toInt ≤ 220 := b142; omega)), (show y137.toInt ≤ y126.toInt from (by first | with_reducible exact q_fe b150 | (have t1 : y137.toInt ≤ y126.toInt := b150; omega))), (show y137.toInt ≤ y127.toInt from (by first | with_reducible exact q_fe b151 | (have t1 : y137.toInt ≤ y127.toInt := b151; omega))), (show y137.toInt ≤ y131.toInt from (by first | with_reducible exact q_fe b152 | (have t1 : y137.toInt ≤ y131.toInt := b152; omega))), (show y137.toInt ≤ y132.toInt from (by first | with_reducible exact q_fe b153 | (have t1 : y137.toInt ≤ y132.toInt := b153; omega))), (show (t0_0, a175, y183, y184, f185, y136, y137, f138, y126, y127, f128, y131, y132, f133) = (F_DW_divideRaised_a R2 x4 t0_0 t0_1 t1_0 t1_1 t2_0 t3_0 t3_1 t4_0 t5_0 t5_1 t6_0 t7_0 t7_1 t8_0 t8_1 t9_0) from Eq.trans (by rw [e198, e197, e196, F_DW_divideRaised_a_c103.eq_1]) hR199)⟩) d_4_15_106
  ·
    refine lv_iconst (v := 1) hx hb d_4_15_80 (by decide) ?_
    refine lv_goto (tgt := 85) hx hb d_4_15_81 (by decide) ?_
    refine lv_ior hx hb d_4_15_85 ?_
    obtain ⟨a205, e206⟩ := q_nm (a94 ||| 1 : Int32)
    refine q_ti (v := a205) e206 ?_
    have b207 : q_F (0 ≤ a205.toInt ∧ a205.toInt ≤ 1) := (by rw [← e206]; show 0 ≤ (a94 ||| 1 : Int32).toInt ∧ (a94 ||| 1 : Int32).toInt ≤ 1; exact s_or' (x := a94) (y := 1) 1 (by decide) 1 (by decide) ⟨(by have t1 : 0 ≤ a94.toInt := b100; have t2 : a94.toInt ≤ 1 := b101; omega), (by have t1 : 0 ≤ a94.toInt := b100; have t2 : a94.toInt ≤ 1 := b101; omega)⟩ ⟨(by have z7 : (1 : Int32).toInt = 1 := rfl; omega), (by have z7 : (1 : Int32).toInt = 1 := rfl; omega)⟩)
    refine q_put (ci := 5) (j := 3) (v := .int a205) (ty := .boolean) C0 V i_DW o_DW n_DW rfl rfl hT0 (by decide) w_215 rfl rfl (q_nz01 (q_Ile (x := 0) (y := a205.toInt) (by decide) rfl (by first | with_reducible exact (q_fe b207).2 | with_reducible exact (q_fe b207).1 | (have t1 : 0 ≤ a205.toInt ∧ a205.toInt ≤ 1 := b207; omega))) (q_Ile (x := a205.toInt) (y := 1) rfl (by decide) (by first | with_reducible exact (q_fe b207).2 | with_reducible exact (q_fe b207).1 | (have t1 : 0 ≤ a205.toInt ∧ a205.toInt ≤ 1 := b207; omega)))) (q_fz01 (q_Ile (x := 0) (y := a205.toInt) (by decide) rfl (by first | with_reducible exact (q_fe b207).2 | with_reducible exact (q_fe b207).1 | (have t1 : 0 ≤ a205.toInt ∧ a205.toInt ≤ 1 := b207; omega))) (q_Ile (x := a205.toInt) (y := 1) rfl (by decide) (by first | with_reducible exact (q_fe b207).2 | with_reducible exact (q_fe b207).1 | (have t1 : 0 ≤ a205.toInt ∧ a205.toInt ≤ 1 := b207; omega)))) (Nat.le_of_ble_eq_true rfl) d_4_15_86 (fun H locs w208 hu209 hT0 V => ?_)
    replace hT0 : w208[30]? = (some (q 30, .inr (5, [.ref (q 31), .long t0_0, .ref (q 9), .int a205])) : Option (Nat × va_E)) := hT0
    replace hI := n_p30 hI hu209 hT0 (by first | with_reducible exact q_fe b207 | exact ⟨(by have t1 : 0 ≤ a205.toInt ∧ a205.toInt ≤ 1 := b207; omega), (by have t1 : 0 ≤ a205.toInt ∧ a205.toInt ≤ 1 := b207; omega)⟩)
    replace hT1 := (hu209 _ (by decide)).trans hT1
    replace hT2 := (hu209 _ (by decide)).trans hT2
    replace hO135 := (hu209 _ (by decide)).trans hO135
    replace hA139 := (hu209 _ (by decide)).trans hA139
    replace hO125 := (hu209 _ (by decide)).trans hO125
    replace hA129 := (hu209 _ (by decide)).trans hA129
    replace hO130 := (hu209 _ (by have z := ne_k2_29; omega)).trans hO130
    replace hA134 := (hu209 _ (by have z := ne_k2_28; omega)).trans hA134
    replace hO42 := (hu209 _ (by decide)).trans hO42
    replace hF := q_us hF hu209 (by simp)
    refine lv_aload_n hx hb d_4_15_89 rfl (lv_at hl 0 rfl) ?_
    refine q_get (ci := 5) (j := 2) (v := .ref (q 9)) C0 V i_DW rfl rfl hT0 (by decide) w_214 rfl d_4_15_90 ?_
    refine q_get (ci := 4) (j := 0) (v := .ref (q 10)) C0 V i_Mil rfl rfl hO42 (by decide) w_111 rfl d_4_15_93 ?_
    refine lv_aload_n hx hb d_4_15_96 rfl (lv_at hl 0 rfl) ?_
    refine q_get (ci := 5) (j := 2) (v := .ref (q 9)) C0 V i_DW rfl rfl hT0 (by decide) w_214 rfl d_4_15_97 ?_
    refine q_get (ci := 4) (j := 1) (v := .ref (q 12)) C0 V i_Mil rfl rfl hO42 (by decide) w_115 rfl d_4_15_100 ?_
    refine q_gov V (q_runV (As := [.ref (q 12)]) (rest := []) (d := 2) (mc := 0) (ms := 0) (ci := 2) C0 V rfl LV_DW_44 (X_Big_copy l D g q w208 10 220 (n_b10 g q) (by decide) 12 220 (n_b12 g q) (by decide)  (by decide) hI t1_0 t1_1 hT1 t2_0 hT2 y136 y137 hO135 f138 hA139  _) rfl rfl hT1 rfl hl.1 rfl (Nat.le_of_ble_eq_true rfl) ⟨by decide, by decide⟩ ⟨Nat.le_of_ble_eq_true rfl, Nat.le_of_ble_eq_true rfl⟩ d_4_15_103) (fun u210 H locs hp211 V => ?_)
    obtain ⟨hI, hZ9⟩ := hp211
    obtain ⟨hu223, hZ9⟩ := hZ9
    obtain ⟨y213, hZ9⟩ := hZ9
    obtain ⟨y214, hZ9⟩ := hZ9
    obtain ⟨f215, hZ9⟩ := hZ9
    obtain ⟨hO212, hZ9⟩ := hZ9
    obtain ⟨hA216, hZ9⟩ := hZ9
    obtain ⟨b217, hZ9⟩ := hZ9
    obtain ⟨b218, hZ9⟩ := hZ9
    replace hZ9 := hZ9.2
    obtain ⟨b220, hZ9⟩ := hZ9
    obtain ⟨b221, hE222⟩ := hZ9
    replace hO212 : u210[10]? = (some (q 10, .inr (2, [.ref (q 11), .int y213, .int y214])) : Option (Nat × va_E)) := hO212
    replace hA216 : u210[11]? = (some (q 11, .inl (g 0, (220 : Int32).toNatClampNeg, .inl f215)) : Option (Nat × va_E)) := hA216
    obtain ⟨p224, e225⟩ : ∃ z, z = (F_Big_copy (220 : Int32) (220 : Int32) t1_0 t1_1 t2_0 y136 y137 f138) := ⟨_, rfl⟩
    have e226 : y213 = p224.1 := congrArg (fun z => z.1) (hE222.trans e225.symm)
    have e227 : y214 = p224.2.1 := congrArg (fun z => z.2.1) (hE222.trans e225.symm)
    have e228 : f215 = p224.2.2 := congrArg (fun z => z.2.2) (hE222.trans e225.symm)
    replace b217 : q_F (0 ≤ y213.toInt) := b217
    replace b218 : q_F (y213.toInt ≤ y136.toInt) := b218
    replace b220 : q_F (y137.toInt ≤ y214.toInt) := b220
    replace b221 : q_F (y214.toInt ≤ y137.toInt) := b221
    replace hT0 := (hu223 _ (by decide)).trans hT0
    replace hO135 := (hu223 _ (by decide)).trans hO135
    replace hA139 := (hu223 _ (by decide)).trans hA139
    replace hO125 := (hu223 _ (by decide)).trans hO125
    replace hA129 := (hu223 _ (by decide)).trans hA129
    replace hO130 := (hu223 _ (by have z0 := zk2; simp only [List.mem_cons, List.not_mem_nil, or_false, not_or]; omega)).trans hO130
    replace hA134 := (hu223 _ (by have z0 := zk2; simp only [List.mem_cons, List.not_mem_nil, or_false, not_or]; omega)).trans hA134
    replace hF := q_uc hF hu223 (by first | exact (q_sk (q_mi 0 rfl) (q_sk (q_mi 1 rfl) q_s0)) | simp)
    have hR229 := (show F_DW_divideRaised_a_c103_6 R2 x4 t0_0 t0_1 t1_0 t1_1 t2_0 t3_0 t3_1 t4_0 t5_0 t5_1 t6_0 t7_0 t7_1 t8_0 t8_1 t9_0 p57 p80 p109 a94 p157 a205 y136 y137 f138 y126 y127 f128 y131 y132 f133 p224 = (F_DW_divideRaised_a R2 x4 t0_0 t0_1 t1_0 t1_1 t2_0 t3_0 t3_1 t4_0 t5_0 t5_1 t6_0 t7_0 t7_1 t8_0 t8_1 t9_0) from Eq.trans (by have c173x := c173; rw [e159] at c173x; rw [e225, ← e206, e167, e166, e165, e164, e163, e162, e161, e160, e159, F_DW_divideRaised_a_c59.eq_1, if_neg c173x]) hR168)
    have hS230 := (show True ∧ S_DW_divideRaised_a_c103_6 R2 x4 t0_0 t0_1 t1_0 t1_1 t2_0 t3_0 t3_1 t4_0 t5_0 t5_1 t6_0 t7_0 t7_1 t8_0 t8_1 t9_0 p57 p80 p109 a94 p157 a205 y136 y137 f138 y126 y127 f128 y131 y132 f133 p224 from (by rw [e225, ← e206, e167, e166, e165, e164, e163, e162, e161, e160, e159]; have h := hS169; rw [S_DW_divideRaised_a_c59.eq_1] at h; have c173x := c173; rw [e159] at c173x; rw [if_neg c173x] at h; with_reducible exact h))
    exact q_retv C0 V (⟨hI, hF, t0_0, a205, y213, y214, f215, y136, y137, f138, y126, y127, f128, y131, y132, f133, hT0, hO212, hA216, hO135, hA139, hO125, hA129, hO130, hA134, (show 0 ≤ y137.toInt from (by first | with_reducible exact q_fe b140 | (have t1 : 0 ≤ y137.toInt := b140; omega))), (show y137.toInt ≤ 0 from (by first | with_reducible exact q_fe b141 | (have t1 : y137.toInt ≤ 0 := b141; omega))), (show t0_0.toInt ≤ t0_0.toInt from (by omega)), (show t0_0.toInt ≤ t0_0.toInt from (by omega)), (show y136.toInt ≤ t8_0.toInt + 219 from (by first | with_reducible exact q_fe b147 | (have t1 : y136.toInt ≤ t8_0.toInt + 219 := b147; omega))), (show y127.toInt ≤ t8_1.toInt from (by have t1 : y47.toInt ≤ t8_1.toInt := b54; have t2 : y71.toInt ≤ y47.toInt := b77; have t3 : y97.toInt ≤ y71.toInt := b106; have t4 : y127.toInt ≤ y97.toInt := b143; omega)), (show y131.toInt ≤ t8_0.toInt + 218 from (by first | with_reducible exact q_fe b144 | (have t1 : y131.toInt ≤ t8_0.toInt + 218 := b144; omega))), (show y131.toInt ≤ R2.toInt from (by first | with_reducible exact q_fe b145 | (have t1 : y131.toInt ≤ R2.toInt := b145; omega))), (show y132.toInt ≤ t8_1.toInt from (by first | with_reducible exact q_fe b146 | (have t1 : y132.toInt ≤ t8_1.toInt := b146; omega))), (show y137.toInt ≤ a205.toInt from (by have t1 : y137.toInt ≤ 0 := b141; have t2 : 0 ≤ a205.toInt ∧ a205.toInt ≤ 1 := b207; omega)), (show a205.toInt ≤ y137.toInt + 1 from (by have t1 : 0 ≤ y137.toInt := b140; have t2 : 0 ≤ a205.toInt ∧ a205.toInt ≤ 1 := b207; omega)), (show y213.toInt ≤ y136.toInt from (by first | with_reducible exact q_fe b218 | (have t1 : y213.toInt ≤ y136.toInt := b218; omega))), (show y137.toInt ≤ y213.toInt from (by have t1 : y137.toInt ≤ 0 := b141; have t2 : 0 ≤ y213.toInt := b217; omega)), (show y137.toInt ≤ y214.toInt from (by first | with_reducible exact q_fe b220 | (have t1 : y137.toInt ≤ y214.toInt := b220; omega))), (show y214.toInt ≤ y137.toInt from (by first | with_reducible exact q_fe b221 | (have t1 : y214.toInt ≤ y137.toInt := b221; omega))), (show y136.toInt ≤ y137.toInt + 220 from (by have t1 : 0 ≤ y137.toInt := b140; have t2 : y136.toInt ≤ 220 := b149; omega)), (show y126.toInt ≤ y137.toInt + 220 from (by have t1 : 0 ≤ y137.toInt := b140; have t2 : y126.toInt ≤ 220 := b142; omega)), (show y137.toInt ≤ y126.toInt from (by first | with_reducible exact q_fe b150 | (have t1 : y137.toInt ≤ y126.toInt := b150; omega))), (show y137.toInt ≤ y127.toInt from (by first | with_reducible exact q_fe b151 | (have t1 : y137.toInt ≤ y127.toInt := b151; omega))), (show y137.toInt ≤ y131.toInt from (by first | with_reducible exact q_fe b152 | (have t1 : y137.toInt ≤ y131.toInt := b152; omega))), (show y137.toInt ≤ y132.toInt from (by first | with_reducible exact q_fe b153 | (have t1 : y137.toInt ≤ y132.toInt := b153; omega))), (show (t0_0, a205, y213, y214, f215, y136, y137, f138, y126, y127, f128, y131, y132, f133) = (F_DW_divideRaised_a R2 x4 t0_0 t0_1 t1_0 t1_1 t2_0 t3_0 t3_1 t4_0 t5_0 t5_1 t6_0 t7_0 t7_1 t8_0 t8_1 t9_0) from Eq.trans (by rw [e228, e227, e226, F_DW_divideRaised_a_c103_6.eq_1]) hR229)⟩) d_4_15_106
theorem d_4_11_0 : decode prog_4_method_11_code 0 = .ok (.aload_n 0, 1) := by decide +kernel
theorem d_4_11_1 : decode prog_4_method_11_code 1 = .ok (.iload_n 3, 1) := by decide +kernel
theorem d_4_11_2 : decode prog_4_method_11_code 2 = .ok (.i2l, 1) := by decide +kernel
theorem d_4_11_3 : decode prog_4_method_11_code 3 = .ok (.putfield 56, 3) := by decide +kernel
theorem d_4_11_6 : decode prog_4_method_11_code 6 = .ok (.iload_n 3, 1) := by decide +kernel
theorem d_4_11_7 : decode prog_4_method_11_code 7 = .ok (.aload_n 2, 1) := by decide +kernel
theorem d_4_11_8 : decode prog_4_method_11_code 8 = .ok (.getfield 48, 3) := by decide +kernel
theorem d_4_11_11 : decode prog_4_method_11_code 11 = .ok (.iadd, 1) := by decide +kernel
theorem d_4_11_12 : decode prog_4_method_11_code 12 = .ok (.aload_n 1, 1) := by decide +kernel
theorem d_4_11_13 : decode prog_4_method_11_code 13 = .ok (.getfield 48, 3) := by decide +kernel
theorem d_4_11_16 : decode prog_4_method_11_code 16 = .ok (.isub, 1) := by decide +kernel
theorem d_4_11_17 : decode prog_4_method_11_code 17 = .ok (.istore 5, 2) := by decide +kernel
theorem d_4_11_19 : decode prog_4_method_11_code 19 = .ok (.aload_n 1, 1) := by decide +kernel
theorem d_4_11_20 : decode prog_4_method_11_code 20 = .ok (.getfield 24, 3) := by decide +kernel
theorem d_4_11_23 : decode prog_4_method_11_code 23 = .ok (.getfield 63, 3) := by decide +kernel
theorem d_4_11_26 : decode prog_4_method_11_code 26 = .ok (.ifCond .ne 15, 3) := by decide +kernel
theorem d_4_11_41 : decode prog_4_method_11_code 41 = .ok (.aload_n 1, 1) := by decide +kernel
theorem d_4_11_42 : decode prog_4_method_11_code 42 = .ok (.getfield 52, 3) := by decide +kernel
theorem d_4_11_45 : decode prog_4_method_11_code 45 = .ok (.iload 5, 2) := by decide +kernel
theorem d_4_11_47 : decode prog_4_method_11_code 47 = .ok (.iadd, 1) := by decide +kernel
theorem d_4_11_48 : decode prog_4_method_11_code 48 = .ok (.aload_n 2, 1) := by decide +kernel
theorem d_4_11_49 : decode prog_4_method_11_code 49 = .ok (.getfield 52, 3) := by decide +kernel
theorem d_4_11_52 : decode prog_4_method_11_code 52 = .ok (.isub, 1) := by decide +kernel
theorem d_4_11_53 : decode prog_4_method_11_code 53 = .ok (.sipush 1000, 3) := by decide +kernel
theorem d_4_11_56 : decode prog_4_method_11_code 56 = .ok (.if_icmp .le 5, 3) := by decide +kernel
theorem d_4_11_61 : decode prog_4_method_11_code 61 = .ok (.aload_n 0, 1) := by decide +kernel
theorem d_4_11_62 : decode prog_4_method_11_code 62 = .ok (.aload_n 1, 1) := by decide +kernel
theorem d_4_11_63 : decode prog_4_method_11_code 63 = .ok (.aload_n 2, 1) := by decide +kernel
theorem d_4_11_64 : decode prog_4_method_11_code 64 = .ok (.iload 5, 2) := by decide +kernel
theorem d_4_11_66 : decode prog_4_method_11_code 66 = .ok (.iconst 1, 1) := by decide +kernel
theorem d_4_11_67 : decode prog_4_method_11_code 67 = .ok (.iadd, 1) := by decide +kernel
theorem d_4_11_68 : decode prog_4_method_11_code 68 = .ok (.invokevirtual 138, 3) := by decide +kernel
set_option maxRecDepth 100000 in
theorem w_1442 : (Cond.code ({ cls := "NumberHouse$DecimalWork", name := "divideRaised", desc := "(LNumberHouse$Dec;LNumberHouse$Dec;I)V" } : MethodName) prog_4_method_15_code (4 : Nat) (none : Option ClassFile.FieldType)) ∈ q_tbl := q_of7 2 rfl (by decide +kernel)
set_option maxRecDepth 100000 in
theorem w_1439 : (Cond.methodLink "NumberHouse$DecimalWork" (138 : Nat) ({ cls := "NumberHouse$DecimalWork", name := "divideRaised", desc := "(LNumberHouse$Dec;LNumberHouse$Dec;I)V" } : MethodName)) ∈ q_tbl := q_of6 239 rfl (by decide +kernel)
set_option maxRecDepth 100000 in
theorem w_1441 : (Cond.instanceMethod ({ cls := "NumberHouse$DecimalWork", name := "divideRaised", desc := "(LNumberHouse$Dec;LNumberHouse$Dec;I)V" } : MethodName)) ∈ q_tbl := q_of7 1 rfl (by decide +kernel)
theorem ws_29 : Cond.selects "NumberHouse$DecimalWork" (⟨"NumberHouse$DecimalWork", "divideRaised", "(LNumberHouse$Dec;LNumberHouse$Dec;I)V"⟩ : MethodName) (⟨"NumberHouse$DecimalWork", "divideRaised", "(LNumberHouse$Dec;LNumberHouse$Dec;I)V"⟩ : MethodName) ∈ q_tbl := q_ofs 29 (by decide +kernel) (by decide +kernel)
theorem LV_DW_138 : q_LV "NumberHouse$DecimalWork" 138 y_DW_divideRaised prog_4_method_15_code 4 none 3 := ⟨w_1442, w_5, w_1439, w_1441, ws_29, ⟨by decide, by decide, by decide +kernel⟩⟩
theorem d_4_11_71 : decode prog_4_method_11_code 71 = .ok (.aload_n 0, 1) := by decide +kernel
theorem d_4_11_72 : decode prog_4_method_11_code 72 = .ok (.aload_n 1, 1) := by decide +kernel
theorem d_4_11_73 : decode prog_4_method_11_code 73 = .ok (.getfield 24, 3) := by decide +kernel
theorem d_4_11_76 : decode prog_4_method_11_code 76 = .ok (.getfield 112, 3) := by decide +kernel
theorem d_4_11_79 : decode prog_4_method_11_code 79 = .ok (.aload_n 2, 1) := by decide +kernel
theorem d_4_11_80 : decode prog_4_method_11_code 80 = .ok (.getfield 24, 3) := by decide +kernel
theorem d_4_11_83 : decode prog_4_method_11_code 83 = .ok (.getfield 112, 3) := by decide +kernel
theorem d_4_11_86 : decode prog_4_method_11_code 86 = .ok (.if_icmp .eq 7, 3) := by decide +kernel
theorem d_4_11_93 : decode prog_4_method_11_code 93 = .ok (.iconst 0, 1) := by decide +kernel
theorem d_4_11_94 : decode prog_4_method_11_code 94 = .ok (.iload 4, 2) := by decide +kernel
theorem d_4_11_96 : decode prog_4_method_11_code 96 = .ok (.invokevirtual 142, 3) := by decide +kernel
theorem d_4_11_99 : decode prog_4_method_11_code 99 = .ok (.ireturn, 1) := by decide +kernel
theorem d_4_11_89 : decode prog_4_method_11_code 89 = .ok (.iconst 1, 1) := by decide +kernel
theorem d_4_11_90 : decode prog_4_method_11_code 90 = .ok (.goto 4, 3) := by decide +kernel
theorem d_4_11_59 : decode prog_4_method_11_code 59 = .ok (.iconst 0, 1) := by decide +kernel
theorem d_4_11_60 : decode prog_4_method_11_code 60 = .ok (.ireturn, 1) := by decide +kernel
theorem d_4_11_29 : decode prog_4_method_11_code 29 = .ok (.aload_n 0, 1) := by decide +kernel
theorem d_4_11_30 : decode prog_4_method_11_code 30 = .ok (.getfield 20, 3) := by decide +kernel
theorem d_4_11_33 : decode prog_4_method_11_code 33 = .ok (.getfield 55, 3) := by decide +kernel
theorem d_4_11_36 : decode prog_4_method_11_code 36 = .ok (.invokevirtual 135, 3) := by decide +kernel
set_option maxRecDepth 100000 in
theorem w_1438 : (Cond.methodLink "NumberHouse$DecimalWork" (135 : Nat) ({ cls := "NumberHouse$Big", name := "clear", desc := "()V" } : MethodName)) ∈ q_tbl := q_of6 238 rfl (by decide +kernel)
theorem LV_DW_135 : q_LV "NumberHouse$DecimalWork" 135 y_Big_clear prog_2_method_2_code 1 none 0 := ⟨w_197, w_4, w_1438, w_195, w_196, ⟨by decide, by decide, by decide +kernel⟩⟩
theorem d_4_11_39 : decode prog_4_method_11_code 39 = .ok (.iconst 1, 1) := by decide +kernel
theorem d_4_11_40 : decode prog_4_method_11_code 40 = .ok (.ireturn, 1) := by decide +kernel
def y_DW_divideToScale : MethodName := ⟨"NumberHouse$DecimalWork", "divideToScale", "(LNumberHouse$Dec;LNumberHouse$Dec;II)Z"⟩
def F_DW_divideToScale_c96 (R : Int32) (R2 : Int32) (x4 : Int32) (x5 : Int32) (t0_0 : Int64) (t0_1 : Int32) (t1_0 : Int32) (t1_1 : Int32) (t2_0 : (Nat → Int32)) (t3_0 : Int32) (t3_1 : Int32) (t4_0 : (Nat → Int32)) (t5_0 : Int32) (t5_1 : Int32) (t6_0 : (Nat → Int32)) (t7_0 : Int32) (t7_1 : Int32) (t8_0 : Int32) (t8_1 : Int32) (t9_0 : (Nat → Int32)) (t10_0 : Int32) (t10_1 : Int32) (t11_0 : Int32) (t11_1 : Int32) (t12_0 : (Nat → Int32)) (a62 : Int32) (p123 : (Int64 × Int32 × Int32 × Int32 × (Nat → Int32) × Int32 × Int32 × (Nat → Int32) × Int32 × Int32 × (Nat → Int32) × Int32 × Int32 × (Nat → Int32))) (y78 : Int64) (y79 : Int32) (y86 : Int32) (y87 : Int32) (f88 : (Nat → Int32)) (y96 : Int32) (y97 : Int32) (f98 : (Nat → Int32)) (p172 : (Int32 × Int32 × Int32 × (Nat → Int32) × Int32 × Int32 × (Nat → Int32))) : Int32 × Int64 × Int32 × Int32 × Int32 × (Nat → Int32) × Int32 × Int32 × (Nat → Int32) × Int32 × Int32 × (Nat → Int32) × Int32 × Int32 × (Nat → Int32) := ((p172.1 : Int32), y78, y79, (p172.2.1 : Int32), (p172.2.2.1 : Int32), (p172.2.2.2.1 : (Nat → Int32)), y86, y87, f88, (p172.2.2.2.2.1 : Int32), (p172.2.2.2.2.2.1 : Int32), (p172.2.2.2.2.2.2 : (Nat → Int32)), y96, y97, f98)
def F_DW_divideToScale_c96_3 (R : Int32) (R2 : Int32) (x4 : Int32) (x5 : Int32) (t0_0 : Int64) (t0_1 : Int32) (t1_0 : Int32) (t1_1 : Int32) (t2_0 : (Nat → Int32)) (t3_0 : Int32) (t3_1 : Int32) (t4_0 : (Nat → Int32)) (t5_0 : Int32) (t5_1 : Int32) (t6_0 : (Nat → Int32)) (t7_0 : Int32) (t7_1 : Int32) (t8_0 : Int32) (t8_1 : Int32) (t9_0 : (Nat → Int32)) (t10_0 : Int32) (t10_1 : Int32) (t11_0 : Int32) (t11_1 : Int32) (t12_0 : (Nat → Int32)) (a62 : Int32) (p123 : (Int64 × Int32 × Int32 × Int32 × (Nat → Int32) × Int32 × Int32 × (Nat → Int32) × Int32 × Int32 × (Nat → Int32) × Int32 × Int32 × (Nat → Int32))) (y78 : Int64) (y79 : Int32) (y86 : Int32) (y87 : Int32) (f88 : (Nat → Int32)) (y96 : Int32) (y97 : Int32) (f98 : (Nat → Int32)) (p213 : (Int32 × Int32 × Int32 × (Nat → Int32) × Int32 × Int32 × (Nat → Int32))) : Int32 × Int64 × Int32 × Int32 × Int32 × (Nat → Int32) × Int32 × Int32 × (Nat → Int32) × Int32 × Int32 × (Nat → Int32) × Int32 × Int32 × (Nat → Int32) := ((p213.1 : Int32), y78, y79, (p213.2.1 : Int32), (p213.2.2.1 : Int32), (p213.2.2.2.1 : (Nat → Int32)), y86, y87, f88, (p213.2.2.2.2.1 : Int32), (p213.2.2.2.2.2.1 : Int32), (p213.2.2.2.2.2.2 : (Nat → Int32)), y96, y97, f98)
def F_DW_divideToScale_c68 (R : Int32) (R2 : Int32) (x4 : Int32) (x5 : Int32) (t0_0 : Int64) (t0_1 : Int32) (t1_0 : Int32) (t1_1 : Int32) (t2_0 : (Nat → Int32)) (t3_0 : Int32) (t3_1 : Int32) (t4_0 : (Nat → Int32)) (t5_0 : Int32) (t5_1 : Int32) (t6_0 : (Nat → Int32)) (t7_0 : Int32) (t7_1 : Int32) (t8_0 : Int32) (t8_1 : Int32) (t9_0 : (Nat → Int32)) (t10_0 : Int32) (t10_1 : Int32) (t11_0 : Int32) (t11_1 : Int32) (t12_0 : (Nat → Int32)) (a62 : Int32) (p123 : (Int64 × Int32 × Int32 × Int32 × (Nat → Int32) × Int32 × Int32 × (Nat → Int32) × Int32 × Int32 × (Nat → Int32) × Int32 × Int32 × (Nat → Int32))) : Int32 × Int64 × Int32 × Int32 × Int32 × (Nat → Int32) × Int32 × Int32 × (Nat → Int32) × Int32 × Int32 × (Nat → Int32) × Int32 × Int32 × (Nat → Int32) := if t8_1 = (p123.2.2.2.2.2.2.2.2.2.2.2.2.1 : Int32) then (F_DW_divideToScale_c96 R R2 x4 x5 t0_0 t0_1 t1_0 t1_1 t2_0 t3_0 t3_1 t4_0 t5_0 t5_1 t6_0 t7_0 t7_1 t8_0 t8_1 t9_0 t10_0 t10_1 t11_0 t11_1 t12_0 a62 p123 (p123.1 : Int64) (p123.2.1 : Int32) (p123.2.2.2.2.2.1 : Int32) (p123.2.2.2.2.2.2.1 : Int32) (p123.2.2.2.2.2.2.2.1 : (Nat → Int32)) (p123.2.2.2.2.2.2.2.2.2.2.2.1 : Int32) (p123.2.2.2.2.2.2.2.2.2.2.2.2.1 : Int32) (p123.2.2.2.2.2.2.2.2.2.2.2.2.2 : (Nat → Int32)) ((F_DW_roundLast (0 : Int32) x5 (p123.1 : Int64) (p123.2.1 : Int32) (p123.2.2.1 : Int32) (p123.2.2.2.1 : Int32) (p123.2.2.2.2.1 : (Nat → Int32)) (p123.2.2.2.2.2.2.2.2.1 : Int32) (p123.2.2.2.2.2.2.2.2.2.1 : Int32) (p123.2.2.2.2.2.2.2.2.2.2.1 : (Nat → Int32))) : (Int32 × Int32 × Int32 × (Nat → Int32) × Int32 × Int32 × (Nat → Int32)))) else (F_DW_divideToScale_c96_3 R R2 x4 x5 t0_0 t0_1 t1_0 t1_1 t2_0 t3_0 t3_1 t4_0 t5_0 t5_1 t6_0 t7_0 t7_1 t8_0 t8_1 t9_0 t10_0 t10_1 t11_0 t11_1 t12_0 a62 p123 (p123.1 : Int64) (p123.2.1 : Int32) (p123.2.2.2.2.2.1 : Int32) (p123.2.2.2.2.2.2.1 : Int32) (p123.2.2.2.2.2.2.2.1 : (Nat → Int32)) (p123.2.2.2.2.2.2.2.2.2.2.2.1 : Int32) (p123.2.2.2.2.2.2.2.2.2.2.2.2.1 : Int32) (p123.2.2.2.2.2.2.2.2.2.2.2.2.2 : (Nat → Int32)) ((F_DW_roundLast (1 : Int32) x5 (p123.1 : Int64) (p123.2.1 : Int32) (p123.2.2.1 : Int32) (p123.2.2.2.1 : Int32) (p123.2.2.2.2.1 : (Nat → Int32)) (p123.2.2.2.2.2.2.2.2.1 : Int32) (p123.2.2.2.2.2.2.2.2.2.1 : Int32) (p123.2.2.2.2.2.2.2.2.2.2.1 : (Nat → Int32))) : (Int32 × Int32 × Int32 × (Nat → Int32) × Int32 × Int32 × (Nat → Int32))))
def F_DW_divideToScale_c36 (R : Int32) (R2 : Int32) (x4 : Int32) (x5 : Int32) (t0_0 : Int64) (t0_1 : Int32) (t1_0 : Int32) (t1_1 : Int32) (t2_0 : (Nat → Int32)) (t3_0 : Int32) (t3_1 : Int32) (t4_0 : (Nat → Int32)) (t5_0 : Int32) (t5_1 : Int32) (t6_0 : (Nat → Int32)) (t7_0 : Int32) (t7_1 : Int32) (t8_0 : Int32) (t8_1 : Int32) (t9_0 : (Nat → Int32)) (t10_0 : Int32) (t10_1 : Int32) (t11_0 : Int32) (t11_1 : Int32) (t12_0 : (Nat → Int32)) (a62 : Int32) (j55 : Int64) (p241 : (Int32 × Int32)) : Int32 × Int64 × Int32 × Int32 × Int32 × (Nat → Int32) × Int32 × Int32 × (Nat → Int32) × Int32 × Int32 × (Nat → Int32) × Int32 × Int32 × (Nat → Int32) := ((1 : Int32), j55, t0_1, (p241.1 : Int32), (p241.2 : Int32), t2_0, t3_0, t3_1, t4_0, t5_0, t5_1, t6_0, t11_0, t11_1, t12_0)
def F_DW_divideToScale (R : Int32) (R2 : Int32) (x4 : Int32) (x5 : Int32) (t0_0 : Int64) (t0_1 : Int32) (t1_0 : Int32) (t1_1 : Int32) (t2_0 : (Nat → Int32)) (t3_0 : Int32) (t3_1 : Int32) (t4_0 : (Nat → Int32)) (t5_0 : Int32) (t5_1 : Int32) (t6_0 : (Nat → Int32)) (t7_0 : Int32) (t7_1 : Int32) (t8_0 : Int32) (t8_1 : Int32) (t9_0 : (Nat → Int32)) (t10_0 : Int32) (t10_1 : Int32) (t11_0 : Int32) (t11_1 : Int32) (t12_0 : (Nat → Int32)) : Int32 × Int64 × Int32 × Int32 × Int32 × (Nat → Int32) × Int32 × Int32 × (Nat → Int32) × Int32 × Int32 × (Nat → Int32) × Int32 × Int32 × (Nat → Int32) := if t8_0 = (0 : Int32) then (F_DW_divideToScale_c36 R R2 x4 x5 t0_0 t0_1 t1_0 t1_1 t2_0 t3_0 t3_1 t4_0 t5_0 t5_1 t6_0 t7_0 t7_1 t8_0 t8_1 t9_0 t10_0 t10_1 t11_0 t11_1 t12_0 ((x4 + t10_0 : Int32) - t7_0 : Int32) (x4.toInt64 : Int64) ((F_Big_clear (220 : Int32) t1_0 t1_1) : (Int32 × Int32))) else (if ((t7_1 + ((x4 + t10_0 : Int32) - t7_0 : Int32) : Int32) - t10_1 : Int32) ≤ (1000 : Int32) then (F_DW_divideToScale_c68 R R2 x4 x5 t0_0 t0_1 t1_0 t1_1 t2_0 t3_0 t3_1 t4_0 t5_0 t5_1 t6_0 t7_0 t7_1 t8_0 t8_1 t9_0 t10_0 t10_1 t11_0 t11_1 t12_0 ((x4 + t10_0 : Int32) - t7_0 : Int32) ((F_DW_divideRaised R R2 (((x4 + t10_0 : Int32) - t7_0 : Int32) + 1 : Int32) (x4.toInt64 : Int64) t0_1 t1_0 t1_1 t2_0 t3_0 t3_1 t4_0 t5_0 t5_1 t6_0 t7_0 t7_1 t8_0 t8_1 t9_0 t10_0 t10_1 t11_0 t11_1 t12_0) : (Int64 × Int32 × Int32 × Int32 × (Nat → Int32) × Int32 × Int32 × (Nat → Int32) × Int32 × Int32 × (Nat → Int32) × Int32 × Int32 × (Nat → Int32)))) else (((0 : Int32), (x4.toInt64 : Int64), t0_1, t1_0, t1_1, t2_0, t3_0, t3_1, t4_0, t5_0, t5_1, t6_0, t11_0, t11_1, t12_0)))
def S_DW_divideToScale_c96 (R : Int32) (R2 : Int32) (x4 : Int32) (x5 : Int32) (t0_0 : Int64) (t0_1 : Int32) (t1_0 : Int32) (t1_1 : Int32) (t2_0 : (Nat → Int32)) (t3_0 : Int32) (t3_1 : Int32) (t4_0 : (Nat → Int32)) (t5_0 : Int32) (t5_1 : Int32) (t6_0 : (Nat → Int32)) (t7_0 : Int32) (t7_1 : Int32) (t8_0 : Int32) (t8_1 : Int32) (t9_0 : (Nat → Int32)) (t10_0 : Int32) (t10_1 : Int32) (t11_0 : Int32) (t11_1 : Int32) (t12_0 : (Nat → Int32)) (a62 : Int32) (p123 : (Int64 × Int32 × Int32 × Int32 × (Nat → Int32) × Int32 × Int32 × (Nat → Int32) × Int32 × Int32 × (Nat → Int32) × Int32 × Int32 × (Nat → Int32))) (y78 : Int64) (y79 : Int32) (y86 : Int32) (y87 : Int32) (f88 : (Nat → Int32)) (y96 : Int32) (y97 : Int32) (f98 : (Nat → Int32)) (p172 : (Int32 × Int32 × Int32 × (Nat → Int32) × Int32 × Int32 × (Nat → Int32))) : Prop := True
def S_DW_divideToScale_c96_3 (R : Int32) (R2 : Int32) (x4 : Int32) (x5 : Int32) (t0_0 : Int64) (t0_1 : Int32) (t1_0 : Int32) (t1_1 : Int32) (t2_0 : (Nat → Int32)) (t3_0 : Int32) (t3_1 : Int32) (t4_0 : (Nat → Int32)) (t5_0 : Int32) (t5_1 : Int32) (t6_0 : (Nat → Int32)) (t7_0 : Int32) (t7_1 : Int32) (t8_0 : Int32) (t8_1 : Int32) (t9_0 : (Nat → Int32)) (t10_0 : Int32) (t10_1 : Int32) (t11_0 : Int32) (t11_1 : Int32) (t12_0 : (Nat → Int32)) (a62 : Int32) (p123 : (Int64 × Int32 × Int32 × Int32 × (Nat → Int32) × Int32 × Int32 × (Nat → Int32) × Int32 × Int32 × (Nat → Int32) × Int32 × Int32 × (Nat → Int32))) (y78 : Int64) (y79 : Int32) (y86 : Int32) (y87 : Int32) (f88 : (Nat → Int32)) (y96 : Int32) (y97 : Int32) (f98 : (Nat → Int32)) (p213 : (Int32 × Int32 × Int32 × (Nat → Int32) × Int32 × Int32 × (Nat → Int32))) : Prop := True
def S_DW_divideToScale_c68 (R : Int32) (R2 : Int32) (x4 : Int32) (x5 : Int32) (t0_0 : Int64) (t0_1 : Int32) (t1_0 : Int32) (t1_1 : Int32) (t2_0 : (Nat → Int32)) (t3_0 : Int32) (t3_1 : Int32) (t4_0 : (Nat → Int32)) (t5_0 : Int32) (t5_1 : Int32) (t6_0 : (Nat → Int32)) (t7_0 : Int32) (t7_1 : Int32) (t8_0 : Int32) (t8_1 : Int32) (t9_0 : (Nat → Int32)) (t10_0 : Int32) (t10_1 : Int32) (t11_0 : Int32) (t11_1 : Int32) (t12_0 : (Nat → Int32)) (a62 : Int32) (p123 : (Int64 × Int32 × Int32 × Int32 × (Nat → Int32) × Int32 × Int32 × (Nat → Int32) × Int32 × Int32 × (Nat → Int32) × Int32 × Int32 × (Nat → Int32))) : Prop := if t8_1 = (p123.2.2.2.2.2.2.2.2.2.2.2.2.1 : Int32) then (S_DW_divideToScale_c96 R R2 x4 x5 t0_0 t0_1 t1_0 t1_1 t2_0 t3_0 t3_1 t4_0 t5_0 t5_1 t6_0 t7_0 t7_1 t8_0 t8_1 t9_0 t10_0 t10_1 t11_0 t11_1 t12_0 a62 p123 (p123.1 : Int64) (p123.2.1 : Int32) (p123.2.2.2.2.2.1 : Int32) (p123.2.2.2.2.2.2.1 : Int32) (p123.2.2.2.2.2.2.2.1 : (Nat → Int32)) (p123.2.2.2.2.2.2.2.2.2.2.2.1 : Int32) (p123.2.2.2.2.2.2.2.2.2.2.2.2.1 : Int32) (p123.2.2.2.2.2.2.2.2.2.2.2.2.2 : (Nat → Int32)) ((F_DW_roundLast (0 : Int32) x5 (p123.1 : Int64) (p123.2.1 : Int32) (p123.2.2.1 : Int32) (p123.2.2.2.1 : Int32) (p123.2.2.2.2.1 : (Nat → Int32)) (p123.2.2.2.2.2.2.2.2.1 : Int32) (p123.2.2.2.2.2.2.2.2.2.1 : Int32) (p123.2.2.2.2.2.2.2.2.2.2.1 : (Nat → Int32))) : (Int32 × Int32 × Int32 × (Nat → Int32) × Int32 × Int32 × (Nat → Int32)))) else (S_DW_divideToScale_c96_3 R R2 x4 x5 t0_0 t0_1 t1_0 t1_1 t2_0 t3_0 t3_1 t4_0 t5_0 t5_1 t6_0 t7_0 t7_1 t8_0 t8_1 t9_0 t10_0 t10_1 t11_0 t11_1 t12_0 a62 p123 (p123.1 : Int64) (p123.2.1 : Int32) (p123.2.2.2.2.2.1 : Int32) (p123.2.2.2.2.2.2.1 : Int32) (p123.2.2.2.2.2.2.2.1 : (Nat → Int32)) (p123.2.2.2.2.2.2.2.2.2.2.2.1 : Int32) (p123.2.2.2.2.2.2.2.2.2.2.2.2.1 : Int32) (p123.2.2.2.2.2.2.2.2.2.2.2.2.2 : (Nat → Int32)) ((F_DW_roundLast (1 : Int32) x5 (p123.1 : Int64) (p123.2.1 : Int32) (p123.2.2.1 : Int32) (p123.2.2.2.1 : Int32) (p123.2.2.2.2.1 : (Nat → Int32)) (p123.2.2.2.2.2.2.2.2.1 : Int32) (p123.2.2.2.2.2.2.2.2.2.1 : Int32) (p123.2.2.2.2.2.2.2.2.2.2.1 : (Nat → Int32))) : (Int32 × Int32 × Int32 × (Nat → Int32) × Int32 × Int32 × (Nat → Int32))))
def S_DW_divideToScale_c36 (R : Int32) (R2 : Int32) (x4 : Int32) (x5 : Int32) (t0_0 : Int64) (t0_1 : Int32) (t1_0 : Int32) (t1_1 : Int32) (t2_0 : (Nat → Int32)) (t3_0 : Int32) (t3_1 : Int32) (t4_0 : (Nat → Int32)) (t5_0 : Int32) (t5_1 : Int32) (t6_0 : (Nat → Int32)) (t7_0 : Int32) (t7_1 : Int32) (t8_0 : Int32) (t8_1 : Int32) (t9_0 : (Nat → Int32)) (t10_0 : Int32) (t10_1 : Int32) (t11_0 : Int32) (t11_1 : Int32) (t12_0 : (Nat → Int32)) (a62 : Int32) (j55 : Int64) (p241 : (Int32 × Int32)) : Prop := True
def S_DW_divideToScale (R : Int32) (R2 : Int32) (x4 : Int32) (x5 : Int32) (t0_0 : Int64) (t0_1 : Int32) (t1_0 : Int32) (t1_1 : Int32) (t2_0 : (Nat → Int32)) (t3_0 : Int32) (t3_1 : Int32) (t4_0 : (Nat → Int32)) (t5_0 : Int32) (t5_1 : Int32) (t6_0 : (Nat → Int32)) (t7_0 : Int32) (t7_1 : Int32) (t8_0 : Int32) (t8_1 : Int32) (t9_0 : (Nat → Int32)) (t10_0 : Int32) (t10_1 : Int32) (t11_0 : Int32) (t11_1 : Int32) (t12_0 : (Nat → Int32)) : Prop := if t8_0 = (0 : Int32) then (S_DW_divideToScale_c36 R R2 x4 x5 t0_0 t0_1 t1_0 t1_1 t2_0 t3_0 t3_1 t4_0 t5_0 t5_1 t6_0 t7_0 t7_1 t8_0 t8_1 t9_0 t10_0 t10_1 t11_0 t11_1 t12_0 ((x4 + t10_0 : Int32) - t7_0 : Int32) (x4.toInt64 : Int64) ((F_Big_clear (220 : Int32) t1_0 t1_1) : (Int32 × Int32))) else (if ((t7_1 + ((x4 + t10_0 : Int32) - t7_0 : Int32) : Int32) - t10_1 : Int32) ≤ (1000 : Int32) then ((True ∧ S_DW_divideRaised R R2 (((x4 + t10_0 : Int32) - t7_0 : Int32) + 1 : Int32) (x4.toInt64 : Int64) t0_1 t1_0 t1_1 t2_0 t3_0 t3_1 t4_0 t5_0 t5_1 t6_0 t7_0 t7_1 t8_0 t8_1 t9_0 t10_0 t10_1 t11_0 t11_1 t12_0) ∧ (S_DW_divideToScale_c68 R R2 x4 x5 t0_0 t0_1 t1_0 t1_1 t2_0 t3_0 t3_1 t4_0 t5_0 t5_1 t6_0 t7_0 t7_1 t8_0 t8_1 t9_0 t10_0 t10_1 t11_0 t11_1 t12_0 ((x4 + t10_0 : Int32) - t7_0 : Int32) ((F_DW_divideRaised R R2 (((x4 + t10_0 : Int32) - t7_0 : Int32) + 1 : Int32) (x4.toInt64 : Int64) t0_1 t1_0 t1_1 t2_0 t3_0 t3_1 t4_0 t5_0 t5_1 t6_0 t7_0 t7_1 t8_0 t8_1 t9_0 t10_0 t10_1 t11_0 t11_1 t12_0) : (Int64 × Int32 × Int32 × Int32 × (Nat → Int32) × Int32 × Int32 × (Nat → Int32) × Int32 × Int32 × (Nat → Int32) × Int32 × Int32 × (Nat → Int32))))) else (True))
set_option maxRecDepth 100000 in
set_option maxHeartbeats 4000000 in
theorem X_DW_divideToScale (l : Launch) (D : va_G) (g : Nat → ClassId) (q : Nat → Nat) (ws : va_W) (k2 : Nat) (R : Int32) (hB2 : q_isDec (nsh g q) g q k2 R) (zk2 : (10 ≤ k2 ∧ k2 ≤ 31) ∨ 66 ≤ k2) (k3 : Nat) (R2 : Int32) (hB3 : q_isDec (nsh g q) g q k3 R2) (zk3 : (10 ≤ k3 ∧ k3 ≤ 31) ∨ 66 ≤ k3) (x4 : Int32) (x5 : Int32) (ne_k2_10 : k2 ≠ 10) (ne_k2_11 : k2 ≠ 11) (ne_k2_9 : k2 ≠ 9) (ne_k2_8 : k2 ≠ 8) (ne_k2_12 : k2 ≠ 12) (ne_k2_13 : k2 ≠ 13) (ne_k2_22 : k2 ≠ 22) (ne_k2_23 : k2 ≠ 23) (ne_k2_21 : k2 ≠ 21) (ne_k2_20 : k2 ≠ 20) (ne_k2_30 : k2 ≠ 30) (ne_k2_31 : k2 ≠ 31) (ne_k2_29 : k2 ≠ 29) (ne_k2_28 : k2 ≠ 28) (ne_k3_10 : k3 ≠ 10) (ne_k3_11 : k3 ≠ 11) (ne_k3_9 : k3 ≠ 9) (ne_k3_8 : k3 ≠ 8) (ne_k3_12 : k3 ≠ 12) (ne_k3_13 : k3 ≠ 13) (ne_k3_22 : k3 ≠ 22) (ne_k3_23 : k3 ≠ 23) (ne_k3_21 : k3 ≠ 21) (ne_k3_20 : k3 ≠ 20) (ne_k3_30 : k3 ≠ 30) (ne_k3_31 : k3 ≠ 31) (ne_k3_29 : k3 ≠ 29) (ne_k3_28 : k3 ≠ 28) (ne_k2_k3 : k2 ≠ k3) (ne_k2_k3p1 : k2 ≠ k3 + 1) (ne_k2_k3p2 : k2 ≠ k3 + 2) (ne_k3_k2p1 : k3 ≠ k2 + 1) (ne_k3_k2p2 : k3 ≠ k2 + 2) (hI : q_I (nsh g q) q ws) (t0_0 : Int64) (t0_1 : Int32) (hT0 : ws[30]? = (some (q 30, .inr (5, [.ref (q 31), .long t0_0, .ref (q 9), .int t0_1])) : Option (Nat × va_E))) (t1_0 : Int32) (t1_1 : Int32) (hT1 : ws[10]? = (some (q 10, .inr (2, [.ref (q 11), .int t1_0, .int t1_1])) : Option (Nat × va_E))) (t2_0 : (Nat → Int32)) (hT2 : ws[11]? = (some (q 11, .inl (g 0, (220 : Int32).toNatClampNeg, .inl t2_0)) : Option (Nat × va_E))) (t3_0 : Int32) (t3_1 : Int32) (hT3 : ws[12]? = (some (q 12, .inr (2, [.ref (q 13), .int t3_0, .int t3_1])) : Option (Nat × va_E))) (t4_0 : (Nat → Int32)) (hT4 : ws[13]? = (some (q 13, .inl (g 0, (220 : Int32).toNatClampNeg, .inl t4_0)) : Option (Nat × va_E))) (t5_0 : Int32) (t5_1 : Int32) (hT5 : ws[22]? = (some (q 22, .inr (2, [.ref (q 23), .int t5_0, .int t5_1])) : Option (Nat × va_E))) (t6_0 : (Nat → Int32)) (hT6 : ws[23]? = (some (q 23, .inl (g 0, (220 : Int32).toNatClampNeg, .inl t6_0)) : Option (Nat × va_E))) (t7_0 : Int32) (t7_1 : Int32) (hT7 : ws[k2]? = (some (q k2, .inr (3, [.ref (q (k2 + 1)), .int t7_0, .int t7_1])) : Option (Nat × va_E))) (t8_0 : Int32) (t8_1 : Int32) (hT8 : ws[k2 + 1]? = (some (q (k2 + 1), .inr (2, [.ref (q (k2 + 2)), .int t8_0, .int t8_1])) : Option (Nat × va_E))) (t9_0 : (Nat → Int32)) (hT9 : ws[k2 + 2]? = (some (q (k2 + 2), .inl (g 0, R.toNatClampNeg, .inl t9_0)) : Option (Nat × va_E))) (t10_0 : Int32) (t10_1 : Int32) (hT10 : ws[k3]? = (some (q k3, .inr (3, [.ref (q (k3 + 1)), .int t10_0, .int t10_1])) : Option (Nat × va_E))) (t11_0 : Int32) (t11_1 : Int32) (hT11 : ws[k3 + 1]? = (some (q (k3 + 1), .inr (2, [.ref (q (k3 + 2)), .int t11_0, .int t11_1])) : Option (Nat × va_E))) (t12_0 : (Nat → Int32)) (hT12 : ws[k3 + 2]? = (some (q (k3 + 2), .inl (g 0, R2.toNatClampNeg, .inl t12_0)) : Option (Nat × va_E))) (hS : True ∧ S_DW_divideToScale R R2 x4 x5 t0_0 t0_1 t1_0 t1_1 t2_0 t3_0 t3_1 t4_0 t5_0 t5_1 t6_0 t7_0 t7_1 t8_0 t8_1 t9_0 t10_0 t10_1 t11_0 t11_1 t12_0) : q_mI l y_DW_divideToScale prog_4_method_11_code 6 (.boolean) 6 0 0 D g [.ref (q 30), .ref (q k2), .ref (q k3), .int x4, .int x5] ws (fun r u => q_I (nsh g q) q u ∧ q_un ws u [10, 11, 12, 13, 22, 23, 30, k3 + 1, k3 + 2] ∧ ∃ (u0_0 : Int64) (u0_1 : Int32) (u1_0 : Int32) (u1_1 : Int32) (u2_0 : (Nat → Int32)) (u3_0 : Int32) (u3_1 : Int32) (u4_0 : (Nat → Int32)) (u5_0 : Int32) (u5_1 : Int32) (u6_0 : (Nat → Int32)) (u11_0 : Int32) (u11_1 : Int32) (u12_0 : (Nat → Int32)), u[30]? = (some (q 30, .inr (5, [.ref (q 31), .long u0_0, .ref (q 9), .int u0_1])) : Option (Nat × va_E)) ∧ u[10]? = (some (q 10, .inr (2, [.ref (q 11), .int u1_0, .int u1_1])) : Option (Nat × va_E)) ∧ u[11]? = (some (q 11, .inl (g 0, (220 : Int32).toNatClampNeg, .inl u2_0)) : Option (Nat × va_E)) ∧ u[12]? = (some (q 12, .inr (2, [.ref (q 13), .int u3_0, .int u3_1])) : Option (Nat × va_E)) ∧ u[13]? = (some (q 13, .inl (g 0, (220 : Int32).toNatClampNeg, .inl u4_0)) : Option (Nat × va_E)) ∧ u[22]? = (some (q 22, .inr (2, [.ref (q 23), .int u5_0, .int u5_1])) : Option (Nat × va_E)) ∧ u[23]? = (some (q 23, .inl (g 0, (220 : Int32).toNatClampNeg, .inl u6_0)) : Option (Nat × va_E)) ∧ u[k3 + 1]? = (some (q (k3 + 1), .inr (2, [.ref (q (k3 + 2)), .int u11_0, .int u11_1])) : Option (Nat × va_E)) ∧ u[k3 + 2]? = (some (q (k3 + 2), .inl (g 0, R2.toNatClampNeg, .inl u12_0)) : Option (Nat × va_E)) ∧ (0 ≤ r.toInt) ∧ (r.toInt ≤ 1) ∧ (0 ≤ u0_1.toInt) ∧ (u0_1.toInt ≤ 1) ∧ (0 ≤ u1_0.toInt) ∧ (u1_0.toInt ≤ 220) ∧ (0 ≤ u1_1.toInt) ∧ (u1_1.toInt ≤ 1) ∧ (0 ≤ u3_0.toInt) ∧ (u3_0.toInt ≤ 220) ∧ (0 ≤ u3_1.toInt) ∧ (u3_1.toInt ≤ 1) ∧ (0 ≤ u5_0.toInt) ∧ (u5_0.toInt ≤ 220) ∧ (0 ≤ u5_1.toInt) ∧ (u5_1.toInt ≤ 1) ∧ (0 ≤ u11_0.toInt) ∧ (u11_0.toInt ≤ 220) ∧ (0 ≤ u11_1.toInt) ∧ (u11_1.toInt ≤ 1) ∧ (x4.toInt ≤ u0_0.toInt) ∧ (u0_0.toInt ≤ x4.toInt) ∧ (u1_0.toInt ≤ t8_0.toInt + 219) ∧ (u1_1.toInt ≤ t8_0.toInt) ∧ (u3_1.toInt ≤ t3_1.toInt) ∧ (u11_0.toInt ≤ t11_0.toInt + 218) ∧ (u11_0.toInt ≤ R2.toInt) ∧ (u11_1.toInt ≤ t11_1.toInt) ∧ (r, u0_0, u0_1, u1_0, u1_1, u2_0, u3_0, u3_1, u4_0, u5_0, u5_1, u6_0, u11_0, u11_1, u12_0) = (F_DW_divideToScale R R2 x4 x5 t0_0 t0_1 t1_0 t1_1 t2_0 t3_0 t3_1 t4_0 t5_0 t5_1 t6_0 t7_0 t7_1 t8_0 t8_1 t9_0 t10_0 t10_1 t11_0 t11_1 t12_0)) := by
  intro sz
  refine q_into (by decide) (Nat.le_of_ble_eq_true rfl) ?_
  intro p e s m below meth c ls hsz C0 V hl
  have hx := C0.1
  have hb := C0.2.1
  have hfk30 : q_F (0 ≤ R2.toInt ∧ R2.toInt ≤ 220) := hB3.2.2.2
  have btt0_1 := n_w30 hI hT0
  replace btt0_1 : q_F (0 ≤ t0_1.toInt ∧ t0_1.toInt ≤ 1) := btt0_1
  obtain ⟨btt1_0, btt1_1⟩ := q_bigW hI (n_b10 g q) hT1
  replace btt1_0 : q_F (0 ≤ t1_0.toInt ∧ t1_0.toInt ≤ 220) := btt1_0
  replace btt1_1 : q_F (0 ≤ t1_1.toInt ∧ t1_1.toInt ≤ 1) := btt1_1
  obtain ⟨btt3_0, btt3_1⟩ := q_bigW hI (n_b12 g q) hT3
  replace btt3_0 : q_F (0 ≤ t3_0.toInt ∧ t3_0.toInt ≤ 220) := btt3_0
  replace btt3_1 : q_F (0 ≤ t3_1.toInt ∧ t3_1.toInt ≤ 1) := btt3_1
  obtain ⟨btt5_0, btt5_1⟩ := q_bigW hI (n_b22 g q) hT5
  replace btt5_0 : q_F (0 ≤ t5_0.toInt ∧ t5_0.toInt ≤ 220) := btt5_0
  replace btt5_1 : q_F (0 ≤ t5_1.toInt ∧ t5_1.toInt ≤ 1) := btt5_1
  have btt7_1 := (n_deW hI hB2 hT7).2
  clear btt7_1
  have btt8_0 := (q_bigW hI hB2.2 hT8).1
  replace btt8_0 : q_F (0 ≤ t8_0.toInt ∧ t8_0.toInt ≤ R.toInt) := btt8_0
  have btt10_1 := (n_deW hI hB3 hT10).2
  clear btt10_1
  obtain ⟨btt11_0, btt11_1⟩ := q_bigW hI hB3.2 hT11
  replace btt11_0 : q_F (0 ≤ t11_0.toInt ∧ t11_0.toInt ≤ R2.toInt) := btt11_0
  replace btt11_1 : q_F (0 ≤ t11_1.toInt ∧ t11_1.toInt ≤ 1) := btt11_1
  have hF : q_un ws ws [10, 11, 12, 13, 22, 23, 30, k3 + 1, k3 + 2] := q_u0
  have hl : lv_has ls 6 [(0, .ref (q 30)), (1, .ref (q k2)), (2, .ref (q k3)), (3, .int x4), (4, .int x5)] := hl
  refine lv_aload_n hx hb d_4_11_0 rfl (lv_at hl 0 rfl) ?_
  refine lv_iload_n hx hb d_4_11_1 rfl (lv_at hl 3 rfl) ?_
  refine lv_i2l hx hb d_4_11_2 rfl ?_
  obtain ⟨j55, e56⟩ := q_nm (x4.toInt64 : Int64)
  refine q_tl (v := j55) e56 ?_
  have b57 : q_F (j55.toInt = x4.toInt) := (by rw [← e56]; show (x4.toInt64 : Int64).toInt = x4.toInt; exact q_i2l rfl)
  refine q_put (ci := 5) (j := 1) (v := .long j55) (ty := .long) C0 V i_DW o_DW n_DW rfl rfl hT0 (by decide) w_212 rfl rfl rfl rfl (Nat.le_of_ble_eq_true rfl) d_4_11_3 (fun H locs w58 hu59 hT0 V => ?_)
  replace hT0 : w58[30]? = (some (q 30, .inr (5, [.ref (q 31), .long j55, .ref (q 9), .int t0_1])) : Option (Nat × va_E)) := hT0
  replace hI := n_p30 hI hu59 hT0 (by first | with_reducible exact q_fe btt0_1 | exact ⟨(by have t1 : 0 ≤ t0_1.toInt ∧ t0_1.toInt ≤ 1 := btt0_1; omega), (by have t1 : 0 ≤ t0_1.toInt ∧ t0_1.toInt ≤ 1 := btt0_1; omega)⟩)
  replace hT1 := (hu59 _ (by decide)).trans hT1
  replace hT2 := (hu59 _ (by decide)).trans hT2
  replace hT3 := (hu59 _ (by decide)).trans hT3
  replace hT4 := (hu59 _ (by decide)).trans hT4
  replace hT5 := (hu59 _ (by decide)).trans hT5
  replace hT6 := (hu59 _ (by decide)).trans hT6
  replace hT7 := (hu59 _ (by have z := ne_k2_30; omega)).trans hT7
  replace hT8 := (hu59 _ (by have z := ne_k2_29; omega)).trans hT8
  replace hT9 := (hu59 _ (by have z := ne_k2_28; omega)).trans hT9
  replace hT10 := (hu59 _ (by have z := ne_k3_30; omega)).trans hT10
  replace hT11 := (hu59 _ (by have z := ne_k3_29; omega)).trans hT11
  replace hT12 := (hu59 _ (by have z := ne_k3_28; omega)).trans hT12
  replace hF := q_us hF hu59 (by simp)
  refine lv_iload_n hx hb d_4_11_6 rfl (lv_at hl 3 rfl) ?_
  refine lv_aload_n hx hb d_4_11_7 rfl (lv_at hl 2 rfl) ?_
  refine q_get (ci := 3) (j := 1) (v := .int t10_0) C0 V i_Dec rfl rfl hT10 (by decide) w_176 rfl d_4_11_8 ?_
  refine lv_iadd hx hb d_4_11_11 ?_
  obtain ⟨a60, e61⟩ := q_nm (x4 + t10_0 : Int32)
  refine q_ti (v := a60) e61 ?_
  refine lv_aload_n hx hb d_4_11_12 rfl (lv_at hl 1 rfl) ?_
  refine q_get (ci := 3) (j := 1) (v := .int t7_0) C0 V i_Dec rfl rfl hT7 (by decide) w_176 rfl d_4_11_13 ?_
  refine lv_isub hx hb d_4_11_16 ?_
  obtain ⟨a62, e63⟩ := q_nm (a60 - t7_0 : Int32)
  refine q_ti (v := a62) e63 ?_
  refine lv_istore (lv' := [(5, .int a62), (0, .ref (q 30)), (1, .ref (q k2)), (2, .ref (q k3)), (3, .int x4), (4, .int x5)]) hx hb d_4_11_17 hl (by decide) rfl (fun ls hl => ?_)
  refine lv_aload_n hx hb d_4_11_19 rfl (lv_at hl 2 rfl) ?_
  refine q_get (ci := 3) (j := 0) (v := .ref (q (k2 + 1))) C0 V i_Dec rfl rfl hT7 (by decide) w_171 rfl d_4_11_20 ?_
  refine q_get (ci := 2) (j := 1) (v := .int t8_0) C0 V i_Big rfl rfl hT8 (by decide) w_90 rfl d_4_11_23 ?_
  refine lv_if_ne (tgt := 41) hx hb d_4_11_26 (by decide) (fun c64 => ?_) (fun c64 => ?_)
  ·
    have b65 : q_F (t8_0.toInt ≠ 0) := (q_neI c64)
    refine lv_aload_n hx hb d_4_11_41 rfl (lv_at hl 2 rfl) ?_
    refine q_get (ci := 3) (j := 2) (v := .int t7_1) C0 V i_Dec rfl rfl hT7 (by decide) w_180 rfl d_4_11_42 ?_
    refine lv_iload hx hb d_4_11_45 (lv_at hl 0 rfl) ?_
    refine lv_iadd hx hb d_4_11_47 ?_
    obtain ⟨a66, e67⟩ := q_nm (t7_1 + a62 : Int32)
    refine q_ti (v := a66) e67 ?_
    refine lv_aload_n hx hb d_4_11_48 rfl (lv_at hl 3 rfl) ?_
    refine q_get (ci := 3) (j := 2) (v := .int t10_1) C0 V i_Dec rfl rfl hT10 (by decide) w_180 rfl d_4_11_49 ?_
    refine lv_isub hx hb d_4_11_52 ?_
    obtain ⟨a68, e69⟩ := q_nm (a66 - t10_1 : Int32)
    refine q_ti (v := a68) e69 ?_
    refine lv_sipush (v := 1000) hx hb d_4_11_53 (by decide) ?_
    refine lv_icmp_le (tgt := 61) hx hb d_4_11_56 (by decide) (fun c70 => ?_) (fun c70 => ?_)
    ·
      refine lv_aload_n hx hb d_4_11_61 rfl (lv_at hl 1 rfl) ?_
      refine lv_aload_n hx hb d_4_11_62 rfl (lv_at hl 2 rfl) ?_
      refine lv_aload_n hx hb d_4_11_63 rfl (lv_at hl 3 rfl) ?_
      refine lv_iload hx hb d_4_11_64 (lv_at hl 0 rfl) ?_
      refine lv_iconst (v := 1) hx hb d_4_11_66 (by decide) ?_
      refine lv_iadd hx hb d_4_11_67 ?_
      obtain ⟨a72, e73⟩ := q_nm (a62 + 1 : Int32)
      refine q_ti (v := a72) e73 ?_
      have ob74 : True ∧ S_DW_divideRaised R R2 a72 j55 t0_1 t1_0 t1_1 t2_0 t3_0 t3_1 t4_0 t5_0 t5_1 t6_0 t7_0 t7_1 t8_0 t8_1 t9_0 t10_0 t10_1 t11_0 t11_1 t12_0 := (by rw [← e73, ← e63, ← e61, ← e56]; have h := hS; rw [S_DW_divideToScale.eq_1] at h; rw [if_neg c64] at h; have c70x := c70; rw [← e69, ← e67, ← e63, ← e61] at c70x; rw [if_pos c70x] at h; with_reducible exact h.2.1)
      refine q_gov V (q_runV (As := [.ref (q k2), .ref (q k3), .int a72]) (rest := []) (d := 5) (mc := 0) (ms := 0) (ci := 5) C0 V rfl LV_DW_138 (X_DW_divideRaised l D g q w58 k2 R hB2 zk2 k3 R2 hB3 zk3 a72 (by have z := ne_k2_10; omega) (by have z := ne_k2_11; omega) (by have z := ne_k2_9; omega) (by have z := ne_k2_8; omega) (by have z := ne_k2_12; omega) (by have z := ne_k2_13; omega) (by have z := ne_k2_22; omega) (by have z := ne_k2_23; omega) (by have z := ne_k2_21; omega) (by have z := ne_k2_20; omega) (by have z := ne_k2_30; omega) (by have z := ne_k2_31; omega) (by have z := ne_k2_29; omega) (by have z := ne_k2_28; omega) (by have z := ne_k3_10; omega) (by have z := ne_k3_11; omega) (by have z := ne_k3_9; omega) (by have z := ne_k3_8; omega) (by have z := ne_k3_12; omega) (by have z := ne_k3_13; omega) (by have z := ne_k3_22; omega) (by have z := ne_k3_23; omega) (by have z := ne_k3_21; omega) (by have z := ne_k3_20; omega) (by have z := ne_k3_30; omega) (by have z := ne_k3_31; omega) (by have z := ne_k3_29; omega) (by have z := ne_k3_28; omega) (by have z := ne_k2_k3; omega) (by have z := ne_k2_k3p1; omega) (by have z := ne_k2_k3p2; omega) (by have z := ne_k3_k2p1; omega) (by have z := ne_k3_k2p2; omega) hI j55 t0_1 hT0 t1_0 t1_1 hT1 t2_0 hT2 t3_0 t3_1 hT3 t4_0 hT4 t5_0 t5_1 hT5 t6_0 hT6 t7_0 t7_1 hT7 t8_0 t8_1 hT8 t9_0 hT9 t10_0 t10_1 hT10 t11_0 t11_1 hT11 t12_0 hT12 ob74 _) rfl rfl hT0 rfl hl.1 rfl (Nat.le_of_ble_eq_true rfl) ⟨by decide, by decide⟩ ⟨Nat.le_of_ble_eq_true rfl, Nat.le_of_ble_eq_true rfl⟩ d_4_11_68) (fun u75 H locs hp76 V => ?_)
      obtain ⟨hI, hZ9⟩ := hp76
      obtain ⟨hu122, hZ9⟩ := hZ9
      obtain ⟨y78, hZ9⟩ := hZ9
      obtain ⟨y79, hZ9⟩ := hZ9
      obtain ⟨y81, hZ9⟩ := hZ9
      obtain ⟨y82, hZ9⟩ := hZ9
      obtain ⟨f83, hZ9⟩ := hZ9
      obtain ⟨y86, hZ9⟩ := hZ9
      obtain ⟨y87, hZ9⟩ := hZ9
      obtain ⟨f88, hZ9⟩ := hZ9
      obtain ⟨y91, hZ9⟩ := hZ9
      obtain ⟨y92, hZ9⟩ := hZ9
      obtain ⟨f93, hZ9⟩ := hZ9
      obtain ⟨y96, hZ9⟩ := hZ9
      obtain ⟨y97, hZ9⟩ := hZ9
      obtain ⟨f98, hZ9⟩ := hZ9
      obtain ⟨hO77, hZ9⟩ := hZ9
      obtain ⟨hO80, hZ9⟩ := hZ9
      obtain ⟨hA84, hZ9⟩ := hZ9
      obtain ⟨hO85, hZ9⟩ := hZ9
      obtain ⟨hA89, hZ9⟩ := hZ9
      obtain ⟨hO90, hZ9⟩ := hZ9
      obtain ⟨hA94, hZ9⟩ := hZ9
      obtain ⟨hO95, hZ9⟩ := hZ9
      obtain ⟨hA99, hZ9⟩ := hZ9
      obtain ⟨b100, hZ9⟩ := hZ9
      obtain ⟨b101, hZ9⟩ := hZ9
      obtain ⟨b102, hZ9⟩ := hZ9
      obtain ⟨b103, hZ9⟩ := hZ9
      replace hZ9 := hZ9.2.2
      obtain ⟨b106, hZ9⟩ := hZ9
      obtain ⟨b107, hZ9⟩ := hZ9
      obtain ⟨b108, hZ9⟩ := hZ9
      obtain ⟨b109, hZ9⟩ := hZ9
      obtain ⟨b110, hZ9⟩ := hZ9
      obtain ⟨b111, hZ9⟩ := hZ9
      obtain ⟨b112, hZ9⟩ := hZ9
      replace hZ9 := hZ9.2.2
      obtain ⟨b115, hZ9⟩ := hZ9
      replace hZ9 := hZ9.2.2.2
      obtain ⟨b119, hZ9⟩ := hZ9
      obtain ⟨b120, hE121⟩ := hZ9
      replace hO77 : u75[30]? = (some (q 30, .inr (5, [.ref (q 31), .long y78, .ref (q 9), .int y79])) : Option (Nat × va_E)) := hO77
      replace hO80 : u75[10]? = (some (q 10, .inr (2, [.ref (q 11), .int y81, .int y82])) : Option (Nat × va_E)) := hO80
      replace hA84 : u75[11]? = (some (q 11, .inl (g 0, (220 : Int32).toNatClampNeg, .inl f83)) : Option (Nat × va_E)) := hA84
      replace hO85 : u75[12]? = (some (q 12, .inr (2, [.ref (q 13), .int y86, .int y87])) : Option (Nat × va_E)) := hO85
      replace hA89 : u75[13]? = (some (q 13, .inl (g 0, (220 : Int32).toNatClampNeg, .inl f88)) : Option (Nat × va_E)) := hA89
      replace hO90 : u75[22]? = (some (q 22, .inr (2, [.ref (q 23), .int y91, .int y92])) : Option (Nat × va_E)) := hO90
      replace hA94 : u75[23]? = (some (q 23, .inl (g 0, (220 : Int32).toNatClampNeg, .inl f93)) : Option (Nat × va_E)) := hA94
      replace hO95 : u75[k3 + 1]? = (some (q (k3 + 1), .inr (2, [.ref (q (k3 + 2)), .int y96, .int y97])) : Option (Nat × va_E)) := hO95
      replace hA99 : u75[k3 + 2]? = (some (q (k3 + 2), .inl (g 0, R2.toNatClampNeg, .inl f98)) : Option (Nat × va_E)) := hA99
      obtain ⟨p123, e124⟩ : ∃ z, z = (F_DW_divideRaised R R2 a72 j55 t0_1 t1_0 t1_1 t2_0 t3_0 t3_1 t4_0 t5_0 t5_1 t6_0 t7_0 t7_1 t8_0 t8_1 t9_0 t10_0 t10_1 t11_0 t11_1 t12_0) := ⟨_, rfl⟩
      have e125 : y78 = p123.1 := congrArg (fun z => z.1) (hE121.trans e124.symm)
      have e126 : y79 = p123.2.1 := congrArg (fun z => z.2.1) (hE121.trans e124.symm)
      have e127 : y81 = p123.2.2.1 := congrArg (fun z => z.2.2.1) (hE121.trans e124.symm)
      have e128 : y82 = p123.2.2.2.1 := congrArg (fun z => z.2.2.2.1) (hE121.trans e124.symm)
      have e129 : f83 = p123.2.2.2.2.1 := congrArg (fun z => z.2.2.2.2.1) (hE121.trans e124.symm)
      have e130 : y86 = p123.2.2.2.2.2.1 := congrArg (fun z => z.2.2.2.2.2.1) (hE121.trans e124.symm)
      have e131 : y87 = p123.2.2.2.2.2.2.1 := congrArg (fun z => z.2.2.2.2.2.2.1) (hE121.trans e124.symm)
      have e132 : f88 = p123.2.2.2.2.2.2.2.1 := congrArg (fun z => z.2.2.2.2.2.2.2.1) (hE121.trans e124.symm)
      have e133 : y91 = p123.2.2.2.2.2.2.2.2.1 := congrArg (fun z => z.2.2.2.2.2.2.2.2.1) (hE121.trans e124.symm)
      have e134 : y92 = p123.2.2.2.2.2.2.2.2.2.1 := congrArg (fun z => z.2.2.2.2.2.2.2.2.2.1) (hE121.trans e124.symm)
      have e135 : f93 = p123.2.2.2.2.2.2.2.2.2.2.1 := congrArg (fun z => z.2.2.2.2.2.2.2.2.2.2.1) (hE121.trans e124.symm)
      have e136 : y96 = p123.2.2.2.2.2.2.2.2.2.2.2.1 := congrArg (fun z => z.2.2.2.2.2.2.2.2.2.2.2.1) (hE121.trans e124.symm)
      have e137 : y97 = p123.2.2.2.2.2.2.2.2.2.2.2.2.1 := congrArg (fun z => z.2.2.2.2.2.2.2.2.2.2.2.2.1) (hE121.trans e124.symm)
      have e138 : f98 = p123.2.2.2.2.2.2.2.2.2.2.2.2.2 := congrArg (fun z => z.2.2.2.2.2.2.2.2.2.2.2.2.2) (hE121.trans e124.symm)
      replace b100 : q_F (0 ≤ y87.toInt) := b100
      replace b101 : q_F (y87.toInt ≤ 0) := b101
      replace b102 : q_F (j55.toInt ≤ y78.toInt) := b102
      replace b103 : q_F (y78.toInt ≤ j55.toInt) := b103
      replace b106 : q_F (y96.toInt ≤ t11_0.toInt + 218) := b106
      replace b107 : q_F (y96.toInt ≤ R2.toInt) := b107
      replace b108 : q_F (y97.toInt ≤ t11_1.toInt) := b108
      replace b109 : q_F (y87.toInt ≤ y79.toInt) := b109
      replace b110 : q_F (y79.toInt ≤ y87.toInt + 1) := b110
      replace b111 : q_F (y81.toInt ≤ y86.toInt) := b111
      replace b112 : q_F (y87.toInt ≤ y81.toInt) := b112
      replace b115 : q_F (y86.toInt ≤ y87.toInt + 220) := b115
      replace b119 : q_F (y87.toInt ≤ y96.toInt) := b119
      replace b120 : q_F (y87.toInt ≤ y97.toInt) := b120
      replace hT7 := (hu122 _ (q_nc (by have z := ne_k2_10; omega) (q_nc (by have z := ne_k2_11; omega) (q_nc (by have z := ne_k2_12; omega) (q_nc (by have z := ne_k2_13; omega) (q_nc (by have z := ne_k2_22; omega) (q_nc (by have z := ne_k2_23; omega) (q_nc (by have z := ne_k2_30; omega) (q_nc (by have z := ne_k2_k3p1; omega) (q_nc (by have z := ne_k2_k3p2; omega) List.not_mem_nil)))))))))).trans hT7
      replace hT8 := (hu122 _ (q_nc (by have z := ne_k2_9; omega) (q_nc (by have z := ne_k2_10; omega) (q_nc (by have z := ne_k2_11; omega) (q_nc (by have z := ne_k2_12; omega) (q_nc (by have z := ne_k2_21; omega) (q_nc (by have z := ne_k2_22; omega) (q_nc (by have z := ne_k2_29; omega) (q_nc (by have z := ne_k2_k3; omega) (q_nc (by have z := ne_k2_k3p1; omega) List.not_mem_nil)))))))))).trans hT8
      replace hT10 := (hu122 _ (by have z0 := zk3; simp only [List.mem_cons, List.not_mem_nil, or_false, not_or]; omega)).trans hT10
      replace hF := q_uc hF hu122 (by first | exact (q_sk (q_mi 0 rfl) (q_sk (q_mi 1 rfl) (q_sk (q_mi 2 rfl) (q_sk (q_mi 3 rfl) (q_sk (q_mi 4 rfl) (q_sk (q_mi 5 rfl) (q_sk (q_mi 6 rfl) (q_sk (q_mi 7 rfl) (q_sk (q_mi 8 rfl) q_s0))))))))) | simp)
      have hR139 := (show F_DW_divideToScale_c68 R R2 x4 x5 t0_0 t0_1 t1_0 t1_1 t2_0 t3_0 t3_1 t4_0 t5_0 t5_1 t6_0 t7_0 t7_1 t8_0 t8_1 t9_0 t10_0 t10_1 t11_0 t11_1 t12_0 a62 p123 = (F_DW_divideToScale R R2 x4 x5 t0_0 t0_1 t1_0 t1_1 t2_0 t3_0 t3_1 t4_0 t5_0 t5_1 t6_0 t7_0 t7_1 t8_0 t8_1 t9_0 t10_0 t10_1 t11_0 t11_1 t12_0) from (by have c70x := c70; rw [← e69, ← e67, ← e63, ← e61] at c70x; rw [e124, ← e73, ← e63, ← e61, ← e56, F_DW_divideToScale.eq_1, if_neg c64, if_pos c70x]))
      have hS140 := (show True ∧ S_DW_divideToScale_c68 R R2 x4 x5 t0_0 t0_1 t1_0 t1_1 t2_0 t3_0 t3_1 t4_0 t5_0 t5_1 t6_0 t7_0 t7_1 t8_0 t8_1 t9_0 t10_0 t10_1 t11_0 t11_1 t12_0 a62 p123 from (by rw [e124, ← e73, ← e63, ← e61, ← e56]; have h := hS; rw [S_DW_divideToScale.eq_1] at h; rw [if_neg c64] at h; have c70x := c70; rw [← e69, ← e67, ← e63, ← e61] at c70x; rw [if_pos c70x] at h; replace h := q_s2 h; with_reducible exact h))
      refine lv_aload_n hx hb d_4_11_71 rfl (lv_at hl 1 rfl) ?_
      refine lv_aload_n hx hb d_4_11_72 rfl (lv_at hl 2 rfl) ?_
      refine q_get (ci := 3) (j := 0) (v := .ref (q (k2 + 1))) C0 V i_Dec rfl rfl hT7 (by decide) w_171 rfl d_4_11_73 ?_
      refine q_get (ci := 2) (j := 2) (v := .int t8_1) C0 V i_Big rfl rfl hT8 (by decide) w_97 rfl d_4_11_76 ?_
      refine lv_aload_n hx hb d_4_11_79 rfl (lv_at hl 3 rfl) ?_
      refine q_get (ci := 3) (j := 0) (v := .ref (q (k3 + 1))) C0 V i_Dec rfl rfl hT10 (by decide) w_171 rfl d_4_11_80 ?_
      refine q_get (ci := 2) (j := 2) (v := .int y97) C0 V i_Big rfl rfl hO95 (by decide) w_97 rfl d_4_11_83 ?_
      refine lv_icmp_eq (tgt := 93) hx hb d_4_11_86 (by decide) (fun c144 => ?_) (fun c144 => ?_)
      ·
        refine lv_iconst (v := 0) hx hb d_4_11_93 (by decide) ?_
        refine lv_iload hx hb d_4_11_94 (lv_at hl 5 rfl) ?_
        refine q_goi V (q_runV (As := [.int 0, .int x5]) (rest := []) (d := 4) (mc := 0) (ms := 0) (ci := 5) C0 V rfl LV_DW_142 (X_DW_roundLast l D g q u75  0 x5 hI y78 y79 hO77 y81 y82 hO80 f83 hA84 y91 y92 hO90 f93 hA94 ⟨(by have y0 : (0 : Int32).toInt = 0 := rfl; omega), (by have y0 : (0 : Int32).toInt = 0 := rfl; omega)⟩ _) rfl rfl hO77 rfl hl.1 rfl (Nat.le_of_ble_eq_true rfl) ⟨by decide, by decide⟩ ⟨Nat.le_of_ble_eq_true rfl, Nat.le_of_ble_eq_true rfl⟩ d_4_11_96) (fun a148 u146 H locs hp147 V => ?_)
        obtain ⟨hI, hZ9⟩ := hp147
        obtain ⟨hu171, hZ9⟩ := hZ9
        obtain ⟨y150, hZ9⟩ := hZ9
        obtain ⟨y151, hZ9⟩ := hZ9
        obtain ⟨f152, hZ9⟩ := hZ9
        obtain ⟨y155, hZ9⟩ := hZ9
        obtain ⟨y156, hZ9⟩ := hZ9
        obtain ⟨f157, hZ9⟩ := hZ9
        obtain ⟨hO149, hZ9⟩ := hZ9
        obtain ⟨hA153, hZ9⟩ := hZ9
        obtain ⟨hO154, hZ9⟩ := hZ9
        obtain ⟨hA158, hZ9⟩ := hZ9
        obtain ⟨b159, hZ9⟩ := hZ9
        obtain ⟨b160, hZ9⟩ := hZ9
        obtain ⟨b161, hZ9⟩ := hZ9
        obtain ⟨b162, hZ9⟩ := hZ9
        obtain ⟨b163, hZ9⟩ := hZ9
        obtain ⟨b164, hZ9⟩ := hZ9
        obtain ⟨b165, hZ9⟩ := hZ9
        obtain ⟨b166, hZ9⟩ := hZ9
        obtain ⟨b167, hZ9⟩ := hZ9
        replace hZ9 := hZ9.2
        obtain ⟨b169, hE170⟩ := hZ9
        replace hO149 : u146[10]? = (some (q 10, .inr (2, [.ref (q 11), .int y150, .int y151])) : Option (Nat × va_E)) := hO149
        replace hA153 : u146[11]? = (some (q 11, .inl (g 0, (220 : Int32).toNatClampNeg, .inl f152)) : Option (Nat × va_E)) := hA153
        replace hO154 : u146[22]? = (some (q 22, .inr (2, [.ref (q 23), .int y155, .int y156])) : Option (Nat × va_E)) := hO154
        replace hA158 : u146[23]? = (some (q 23, .inl (g 0, (220 : Int32).toNatClampNeg, .inl f157)) : Option (Nat × va_E)) := hA158
        obtain ⟨p172, e173⟩ : ∃ z, z = (F_DW_roundLast (0 : Int32) x5 y78 y79 y81 y82 f83 y91 y92 f93) := ⟨_, rfl⟩
        have e174 : a148 = p172.1 := congrArg (fun z => z.1) (hE170.trans e173.symm)
        have e175 : y150 = p172.2.1 := congrArg (fun z => z.2.1) (hE170.trans e173.symm)
        have e176 : y151 = p172.2.2.1 := congrArg (fun z => z.2.2.1) (hE170.trans e173.symm)
        have e177 : f152 = p172.2.2.2.1 := congrArg (fun z => z.2.2.2.1) (hE170.trans e173.symm)
        have e178 : y155 = p172.2.2.2.2.1 := congrArg (fun z => z.2.2.2.2.1) (hE170.trans e173.symm)
        have e179 : y156 = p172.2.2.2.2.2.1 := congrArg (fun z => z.2.2.2.2.2.1) (hE170.trans e173.symm)
        have e180 : f157 = p172.2.2.2.2.2.2 := congrArg (fun z => z.2.2.2.2.2.2) (hE170.trans e173.symm)
        replace b159 : q_F (0 ≤ a148.toInt) := b159
        replace b160 : q_F (a148.toInt ≤ 1) := b160
        replace b161 : q_F (y150.toInt ≤ 220) := b161
        replace b162 : q_F (0 ≤ y151.toInt) := b162
        replace b163 : q_F (y151.toInt ≤ 1) := b163
        replace b164 : q_F (0 ≤ y155.toInt) := b164
        replace b165 : q_F (y155.toInt ≤ 220) := b165
        replace b166 : q_F (0 ≤ y156.toInt) := b166
        replace b167 : q_F (y156.toInt ≤ 1) := b167
        replace b169 : q_F (y151.toInt ≤ y150.toInt) := b169
        replace hO77 := (hu171 _ (by decide)).trans hO77
        replace hO85 := (hu171 _ (by decide)).trans hO85
        replace hA89 := (hu171 _ (by decide)).trans hA89
        replace hO95 := (hu171 _ (by have z0 := zk3; simp only [List.mem_cons, List.not_mem_nil, or_false, not_or]; omega)).trans hO95
        replace hA99 := (hu171 _ (by have z0 := zk3; simp only [List.mem_cons, List.not_mem_nil, or_false, not_or]; omega)).trans hA99
        replace hF := q_uc hF hu171 (by first | exact (q_sk (q_mi 0 rfl) (q_sk (q_mi 1 rfl) (q_sk (q_mi 4 rfl) (q_sk (q_mi 5 rfl) q_s0)))) | simp)
        have hR181 := (show F_DW_divideToScale_c96 R R2 x4 x5 t0_0 t0_1 t1_0 t1_1 t2_0 t3_0 t3_1 t4_0 t5_0 t5_1 t6_0 t7_0 t7_1 t8_0 t8_1 t9_0 t10_0 t10_1 t11_0 t11_1 t12_0 a62 p123 y78 y79 y86 y87 f88 y96 y97 f98 p172 = (F_DW_divideToScale R R2 x4 x5 t0_0 t0_1 t1_0 t1_1 t2_0 t3_0 t3_1 t4_0 t5_0 t5_1 t6_0 t7_0 t7_1 t8_0 t8_1 t9_0 t10_0 t10_1 t11_0 t11_1 t12_0) from Eq.trans (by have c144x := c144; rw [e137] at c144x; rw [e173, e138, e137, e136, e135, e134, e133, e132, e131, e130, e129, e128, e127, e126, e125, F_DW_divideToScale_c68.eq_1, if_pos c144x]) hR139)
        have hS182 := (show True ∧ S_DW_divideToScale_c96 R R2 x4 x5 t0_0 t0_1 t1_0 t1_1 t2_0 t3_0 t3_1 t4_0 t5_0 t5_1 t6_0 t7_0 t7_1 t8_0 t8_1 t9_0 t10_0 t10_1 t11_0 t11_1 t12_0 a62 p123 y78 y79 y86 y87 f88 y96 y97 f98 p172 from (by rw [e173, e138, e137, e136, e135, e134, e133, e132, e131, e130, e129, e128, e127, e126, e125]; have h := hS140; rw [S_DW_divideToScale_c68.eq_1] at h; have c144x := c144; rw [e137] at c144x; rw [if_pos c144x] at h; with_reducible exact h))
        exact q_retz C0 V (q_nz01 (q_Ile (x := 0) (y := a148.toInt) (by decide) rfl (by first | with_reducible exact q_fe b159 | (have t1 : 0 ≤ a148.toInt := b159; omega))) (q_Ile (x := a148.toInt) (y := 1) rfl (by decide) (by first | with_reducible exact q_fe b160 | (have t1 : a148.toInt ≤ 1 := b160; omega)))) (⟨hI, hF, y78, y79, y150, y151, f152, y86, y87, f88, y155, y156, f157, y96, y97, f98, hO77, hO149, hA153, hO85, hA89, hO154, hA158, hO95, hA99, (show 0 ≤ a148.toInt from (by first | with_reducible exact q_fe b159 | (have t1 : 0 ≤ a148.toInt := b159; omega))), (show a148.toInt ≤ 1 from (by first | with_reducible exact q_fe b160 | (have t1 : a148.toInt ≤ 1 := b160; omega))), (show 0 ≤ y79.toInt from (by have t1 : 0 ≤ y87.toInt := b100; have t2 : y87.toInt ≤ y79.toInt := b109; omega)), (show y79.toInt ≤ 1 from (by have t1 : y87.toInt ≤ 0 := b101; have t2 : y79.toInt ≤ y87.toInt + 1 := b110; omega)), (show 0 ≤ y150.toInt from (by have t1 : 0 ≤ y151.toInt := b162; have t2 : y151.toInt ≤ y150.toInt := b169; omega)), (show y150.toInt ≤ 220 from (by first | with_reducible exact q_fe b161 | (have t1 : y150.toInt ≤ 220 := b161; omega))), (show 0 ≤ y151.toInt from (by first | with_reducible exact q_fe b162 | (have t1 : 0 ≤ y151.toInt := b162; omega))), (show y151.toInt ≤ 1 from (by first | with_reducible exact q_fe b163 | (have t1 : y151.toInt ≤ 1 := b163; omega))), (show 0 ≤ y86.toInt from (by have t1 : 0 ≤ y87.toInt := b100; have t2 : y81.toInt ≤ y86.toInt := b111; have t3 : y87.toInt ≤ y81.toInt := b112; omega)), (show y86.toInt ≤ 220 from (by have t1 : y87.toInt ≤ 0 := b101; have t2 : y86.toInt ≤ y87.toInt + 220 := b115; omega)), (show 0 ≤ y87.toInt from (by first | with_reducible exact q_fe b100 | (have t1 : 0 ≤ y87.toInt := b100; omega))), (show y87.toInt ≤ 1 from (by first | with_reducible exact q_fe b101 | (have t1 : y87.toInt ≤ 0 := b101; omega))), (show 0 ≤ y155.toInt from (by first | with_reducible exact q_fe b164 | (have t1 : 0 ≤ y155.toInt := b164; omega))), (show y155.toInt ≤ 220 from (by first | with_reducible exact q_fe b165 | (have t1 : y155.toInt ≤ 220 := b165; omega))), (show 0 ≤ y156.toInt from (by first | with_reducible exact q_fe b166 | (have t1 : 0 ≤ y156.toInt := b166; omega))), (show y156.toInt ≤ 1 from (by first | with_reducible exact q_fe b167 | (have t1 : y156.toInt ≤ 1 := b167; omega))), (show 0 ≤ y96.toInt from (by have t1 : 0 ≤ y87.toInt := b100; have t2 : y87.toInt ≤ y96.toInt := b119; omega)), (show y96.toInt ≤ 220 from (by have t1 : 0 ≤ R2.toInt ∧ R2.toInt ≤ 220 := hfk30; have t2 : y96.toInt ≤ R2.toInt := b107; omega)), (show 0 ≤ y97.toInt from (by have t1 : 0 ≤ y87.toInt := b100; have t2 : y87.toInt ≤ y97.toInt := b120; omega)), (show y97.toInt ≤ 1 from (by have t1 : 0 ≤ t11_1.toInt ∧ t11_1.toInt ≤ 1 := btt11_1; have t2 : y97.toInt ≤ t11_1.toInt := b108; omega)), (show x4.toInt ≤ y78.toInt from (by have t1 : j55.toInt = x4.toInt := b57; have t2 : j55.toInt ≤ y78.toInt := b102; omega)), (show y78.toInt ≤ x4.toInt from (by have t1 : j55.toInt = x4.toInt := b57; have t2 : y78.toInt ≤ j55.toInt := b103; omega)), (show y150.toInt ≤ t8_0.toInt + 219 from (by have t1 : 0 ≤ t8_0.toInt ∧ t8_0.toInt ≤ R.toInt := btt8_0; have t2 : t8_0.toInt ≠ 0 := b65; have t3 : y150.toInt ≤ 220 := b161; omega)), (show y151.toInt ≤ t8_0.toInt from (by have t1 : 0 ≤ t8_0.toInt ∧ t8_0.toInt ≤ R.toInt := btt8_0; have t2 : t8_0.toInt ≠ 0 := b65; have t3 : y151.toInt ≤ 1 := b163; omega)), (show y87.toInt ≤ t3_1.toInt from (by have t1 : 0 ≤ t3_1.toInt ∧ t3_1.toInt ≤ 1 := btt3_1; have t2 : y87.toInt ≤ 0 := b101; omega)), (show y96.toInt ≤ t11_0.toInt + 218 from (by first | with_reducible exact q_fe b106 | (have t1 : y96.toInt ≤ t11_0.toInt + 218 := b106; omega))), (show y96.toInt ≤ R2.toInt from (by first | with_reducible exact q_fe b107 | (have t1 : y96.toInt ≤ R2.toInt := b107; omega))), (show y97.toInt ≤ t11_1.toInt from (by first | with_reducible exact q_fe b108 | (have t1 : y97.toInt ≤ t11_1.toInt := b108; omega))), (show (a148, y78, y79, y150, y151, f152, y86, y87, f88, y155, y156, f157, y96, y97, f98) = (F_DW_divideToScale R R2 x4 x5 t0_0 t0_1 t1_0 t1_1 t2_0 t3_0 t3_1 t4_0 t5_0 t5_1 t6_0 t7_0 t7_1 t8_0 t8_1 t9_0 t10_0 t10_1 t11_0 t11_1 t12_0) from Eq.trans (by rw [e180, e179, e178, e177, e176, e175, e174, F_DW_divideToScale_c96.eq_1]) hR181)⟩) d_4_11_99
      ·
        refine lv_iconst (v := 1) hx hb d_4_11_89 (by decide) ?_
        refine lv_goto (tgt := 94) hx hb d_4_11_90 (by decide) ?_
        refine lv_iload hx hb d_4_11_94 (lv_at hl 5 rfl) ?_
        refine q_goi V (q_runV (As := [.int 1, .int x5]) (rest := []) (d := 4) (mc := 0) (ms := 0) (ci := 5) C0 V rfl LV_DW_142 (X_DW_roundLast l D g q u75  1 x5 hI y78 y79 hO77 y81 y82 hO80 f83 hA84 y91 y92 hO90 f93 hA94 ⟨(by have y0 : (1 : Int32).toInt = 1 := rfl; omega), (by have y0 : (1 : Int32).toInt = 1 := rfl; omega)⟩ _) rfl rfl hO77 rfl hl.1 rfl (Nat.le_of_ble_eq_true rfl) ⟨by decide, by decide⟩ ⟨Nat.le_of_ble_eq_true rfl, Nat.le_of_ble_eq_true rfl⟩ d_4_11_96) (fun a189 u187 H locs hp188 V => ?_)
        obtain ⟨hI, hZ9⟩ := hp188
        obtain ⟨hu212, hZ9⟩ := hZ9
        obtain ⟨y191, hZ9⟩ := hZ9
        obtain ⟨y192, hZ9⟩ := hZ9
        obtain ⟨f193, hZ9⟩ := hZ9
        obtain ⟨y196, hZ9⟩ := hZ9
        obtain ⟨y197, hZ9⟩ := hZ9
        obtain ⟨f198, hZ9⟩ := hZ9
        obtain ⟨hO190, hZ9⟩ := hZ9
        obtain ⟨hA194, hZ9⟩ := hZ9
        obtain ⟨hO195, hZ9⟩ := hZ9
        obtain ⟨hA199, hZ9⟩ := hZ9
        obtain ⟨b200, hZ9⟩ := hZ9
        obtain ⟨b201, hZ9⟩ := hZ9
        obtain ⟨b202, hZ9⟩ := hZ9
        obtain ⟨b203, hZ9⟩ := hZ9
        obtain ⟨b204, hZ9⟩ := hZ9
        obtain ⟨b205, hZ9⟩ := hZ9
        obtain ⟨b206, hZ9⟩ := hZ9
        obtain ⟨b207, hZ9⟩ := hZ9
        obtain ⟨b208, hZ9⟩ := hZ9
        replace hZ9 := hZ9.2
        obtain ⟨b210, hE211⟩ := hZ9
        replace hO190 : u187[10]? = (some (q 10, .inr (2, [.ref (q 11), .int y191, .int y192])) : Option (Nat × va_E)) := hO190
        replace hA194 : u187[11]? = (some (q 11, .inl (g 0, (220 : Int32).toNatClampNeg, .inl f193)) : Option (Nat × va_E)) := hA194
        replace hO195 : u187[22]? = (some (q 22, .inr (2, [.ref (q 23), .int y196, .int y197])) : Option (Nat × va_E)) := hO195
        replace hA199 : u187[23]? = (some (q 23, .inl (g 0, (220 : Int32).toNatClampNeg, .inl f198)) : Option (Nat × va_E)) := hA199
        obtain ⟨p213, e214⟩ : ∃ z, z = (F_DW_roundLast (1 : Int32) x5 y78 y79 y81 y82 f83 y91 y92 f93) := ⟨_, rfl⟩
        have e215 : a189 = p213.1 := congrArg (fun z => z.1) (hE211.trans e214.symm)
        have e216 : y191 = p213.2.1 := congrArg (fun z => z.2.1) (hE211.trans e214.symm)
        have e217 : y192 = p213.2.2.1 := congrArg (fun z => z.2.2.1) (hE211.trans e214.symm)
        have e218 : f193 = p213.2.2.2.1 := congrArg (fun z => z.2.2.2.1) (hE211.trans e214.symm)
        have e219 : y196 = p213.2.2.2.2.1 := congrArg (fun z => z.2.2.2.2.1) (hE211.trans e214.symm)
        have e220 : y197 = p213.2.2.2.2.2.1 := congrArg (fun z => z.2.2.2.2.2.1) (hE211.trans e214.symm)
        have e221 : f198 = p213.2.2.2.2.2.2 := congrArg (fun z => z.2.2.2.2.2.2) (hE211.trans e214.symm)
        replace b200 : q_F (0 ≤ a189.toInt) := b200
        replace b201 : q_F (a189.toInt ≤ 1) := b201
        replace b202 : q_F (y191.toInt ≤ 220) := b202
        replace b203 : q_F (0 ≤ y192.toInt) := b203
        replace b204 : q_F (y192.toInt ≤ 1) := b204
        replace b205 : q_F (0 ≤ y196.toInt) := b205
        replace b206 : q_F (y196.toInt ≤ 220) := b206
        replace b207 : q_F (0 ≤ y197.toInt) := b207
        replace b208 : q_F (y197.toInt ≤ 1) := b208
        replace b210 : q_F (y192.toInt ≤ y191.toInt) := b210
        replace hO77 := (hu212 _ (by decide)).trans hO77
        replace hO85 := (hu212 _ (by decide)).trans hO85
        replace hA89 := (hu212 _ (by decide)).trans hA89
        replace hO95 := (hu212 _ (by have z0 := zk3; simp only [List.mem_cons, List.not_mem_nil, or_false, not_or]; omega)).trans hO95
        replace hA99 := (hu212 _ (by have z0 := zk3; simp only [List.mem_cons, List.not_mem_nil, or_false, not_or]; omega)).trans hA99
        replace hF := q_uc hF hu212 (by first | exact (q_sk (q_mi 0 rfl) (q_sk (q_mi 1 rfl) (q_sk (q_mi 4 rfl) (q_sk (q_mi 5 rfl) q_s0)))) | simp)
        have hR222 := (show F_DW_divideToScale_c96_3 R R2 x4 x5 t0_0 t0_1 t1_0 t1_1 t2_0 t3_0 t3_1 t4_0 t5_0 t5_1 t6_0 t7_0 t7_1 t8_0 t8_1 t9_0 t10_0 t10_1 t11_0 t11_1 t12_0 a62 p123 y78 y79 y86 y87 f88 y96 y97 f98 p213 = (F_DW_divideToScale R R2 x4 x5 t0_0 t0_1 t1_0 t1_1 t2_0 t3_0 t3_1 t4_0 t5_0 t5_1 t6_0 t7_0 t7_1 t8_0 t8_1 t9_0 t10_0 t10_1 t11_0 t11_1 t12_0) from Eq.trans (by have c144x := c144; rw [e137] at c144x; rw [e214, e138, e137, e136, e135, e134, e133, e132, e131, e130, e129, e128, e127, e126, e125, F_DW_divideToScale_c68.eq_1, if_neg c144x]) hR139)
        have hS223 := (show True ∧ S_DW_divideToScale_c96_3 R R2 x4 x5 t0_0 t0_1 t1_0 t1_1 t2_0 t3_0 t3_1 t4_0 t5_0 t5_1 t6_0 t7_0 t7_1 t8_0 t8_1 t9_0 t10_0 t10_1 t11_0 t11_1 t12_0 a62 p123 y78 y79 y86 y87 f88 y96 y97 f98 p213 from (by rw [e214, e138, e137, e136, e135, e134, e133, e132, e131, e130, e129, e128, e127, e126, e125]; have h := hS140; rw [S_DW_divideToScale_c68.eq_1] at h; have c144x := c144; rw [e137] at c144x; rw [if_neg c144x] at h; with_reducible exact h))
        exact q_retz C0 V (q_nz01 (q_Ile (x := 0) (y := a189.toInt) (by decide) rfl (by first | with_reducible exact q_fe b200 | (have t1 : 0 ≤ a189.toInt := b200; omega))) (q_Ile (x := a189.toInt) (y := 1) rfl (by decide) (by first | with_reducible exact q_fe b201 | (have t1 : a189.toInt ≤ 1 := b201; omega)))) (⟨hI, hF, y78, y79, y191, y192, f193, y86, y87, f88, y196, y197, f198, y96, y97, f98, hO77, hO190, hA194, hO85, hA89, hO195, hA199, hO95, hA99, (show 0 ≤ a189.toInt from (by first | with_reducible exact q_fe b200 | (have t1 : 0 ≤ a189.toInt := b200; omega))), (show a189.toInt ≤ 1 from (by first | with_reducible exact q_fe b201 | (have t1 : a189.toInt ≤ 1 := b201; omega))), (show 0 ≤ y79.toInt from (by have t1 : 0 ≤ y87.toInt := b100; have t2 : y87.toInt ≤ y79.toInt := b109; omega)), (show y79.toInt ≤ 1 from (by have t1 : y87.toInt ≤ 0 := b101; have t2 : y79.toInt ≤ y87.toInt + 1 := b110; omega)), (show 0 ≤ y191.toInt from (by have t1 : 0 ≤ y192.toInt := b203; have t2 : y192.toInt ≤ y191.toInt := b210; omega)), (show y191.toInt ≤ 220 from (by first | with_reducible exact q_fe b202 | (have t1 : y191.toInt ≤ 220 := b202; omega))), (show 0 ≤ y192.toInt from (by first | with_reducible exact q_fe b203 | (have t1 : 0 ≤ y192.toInt := b203; omega))), (show y192.toInt ≤ 1 from (by first | with_reducible exact q_fe b204 | (have t1 : y192.toInt ≤ 1 := b204; omega))), (show 0 ≤ y86.toInt from (by have t1 : 0 ≤ y87.toInt := b100; have t2 : y81.toInt ≤ y86.toInt := b111; have t3 : y87.toInt ≤ y81.toInt := b112; omega)), (show y86.toInt ≤ 220 from (by have t1 : y87.toInt ≤ 0 := b101; have t2 : y86.toInt ≤ y87.toInt + 220 := b115; omega)), (show 0 ≤ y87.toInt from (by first | with_reducible exact q_fe b100 | (have t1 : 0 ≤ y87.toInt := b100; omega))), (show y87.toInt ≤ 1 from (by first | with_reducible exact q_fe b101 | (have t1 : y87.toInt ≤ 0 := b101; omega))), (show 0 ≤ y196.toInt from (by first | with_reducible exact q_fe b205 | (have t1 : 0 ≤ y196.toInt := b205; omega))), (show y196.toInt ≤ 220 from (by first | with_reducible exact q_fe b206 | (have t1 : y196.toInt ≤ 220 := b206; omega))), (show 0 ≤ y197.toInt from (by first | with_reducible exact q_fe b207 | (have t1 : 0 ≤ y197.toInt := b207; omega))), (show y197.toInt ≤ 1 from (by first | with_reducible exact q_fe b208 | (have t1 : y197.toInt ≤ 1 := b208; omega))), (show 0 ≤ y96.toInt from (by have t1 : 0 ≤ y87.toInt := b100; have t2 : y87.toInt ≤ y96.toInt := b119; omega)), (show y96.toInt ≤ 220 from (by have t1 : 0 ≤ R2.toInt ∧ R2.toInt ≤ 220 := hfk30; have t2 : y96.toInt ≤ R2.toInt := b107; omega)), (show 0 ≤ y97.toInt from (by have t1 : 0 ≤ y87.toInt := b100; have t2 : y87.toInt ≤ y97.toInt := b120; omega)), (show y97.toInt ≤ 1 from (by have t1 : 0 ≤ t11_1.toInt ∧ t11_1.toInt ≤ 1 := btt11_1; have t2 : y97.toInt ≤ t11_1.toInt := b108; omega)), (show x4.toInt ≤ y78.toInt from (by have t1 : j55.toInt = x4.toInt := b57; have t2 : j55.toInt ≤ y78.toInt := b102; omega)), (show y78.toInt ≤ x4.toInt from (by have t1 : j55.toInt = x4.toInt := b57; have t2 : y78.toInt ≤ j55.toInt := b103; omega)), (show y191.toInt ≤ t8_0.toInt + 219 from (by have t1 : 0 ≤ t8_0.toInt ∧ t8_0.toInt ≤ R.toInt := btt8_0; have t2 : t8_0.toInt ≠ 0 := b65; have t3 : y191.toInt ≤ 220 := b202; omega)), (show y192.toInt ≤ t8_0.toInt from (by have t1 : 0 ≤ t8_0.toInt ∧ t8_0.toInt ≤ R.toInt := btt8_0; have t2 : t8_0.toInt ≠ 0 := b65; have t3 : y192.toInt ≤ 1 := b204; omega)), (show y87.toInt ≤ t3_1.toInt from (by have t1 : 0 ≤ t3_1.toInt ∧ t3_1.toInt ≤ 1 := btt3_1; have t2 : y87.toInt ≤ 0 := b101; omega)), (show y96.toInt ≤ t11_0.toInt + 218 from (by first | with_reducible exact q_fe b106 | (have t1 : y96.toInt ≤ t11_0.toInt + 218 := b106; omega))), (show y96.toInt ≤ R2.toInt from (by first | with_reducible exact q_fe b107 | (have t1 : y96.toInt ≤ R2.toInt := b107; omega))), (show y97.toInt ≤ t11_1.toInt from (by first | with_reducible exact q_fe b108 | (have t1 : y97.toInt ≤ t11_1.toInt := b108; omega))), (show (a189, y78, y79, y191, y192, f193, y86, y87, f88, y196, y197, f198, y96, y97, f98) = (F_DW_divideToScale R R2 x4 x5 t0_0 t0_1 t1_0 t1_1 t2_0 t3_0 t3_1 t4_0 t5_0 t5_1 t6_0 t7_0 t7_1 t8_0 t8_1 t9_0 t10_0 t10_1 t11_0 t11_1 t12_0) from Eq.trans (by rw [e221, e220, e219, e218, e217, e216, e215, F_DW_divideToScale_c96_3.eq_1]) hR222)⟩) d_4_11_99
    ·
      refine lv_iconst (v := 0) hx hb d_4_11_59 (by decide) ?_
      exact q_retz C0 V (by decide) (⟨hI, hF, j55, t0_1, t1_0, t1_1, t2_0, t3_0, t3_1, t4_0, t5_0, t5_1, t6_0, t11_0, t11_1, t12_0, hT0, hT1, hT2, hT3, hT4, hT5, hT6, hT11, hT12, (show 0 ≤ (0 : Int32).toInt from (by have z25 : (0 : Int32).toInt = 0 := rfl; omega)), (show (0 : Int32).toInt ≤ 1 from (by have z25 : (0 : Int32).toInt = 0 := rfl; omega)), (show 0 ≤ t0_1.toInt from (by have z25 : (0 : Int32).toInt = 0 := rfl; have t1 : 0 ≤ t0_1.toInt ∧ t0_1.toInt ≤ 1 := btt0_1; omega)), (show t0_1.toInt ≤ 1 from (by have z25 : (0 : Int32).toInt = 0 := rfl; have t1 : 0 ≤ t0_1.toInt ∧ t0_1.toInt ≤ 1 := btt0_1; omega)), (show 0 ≤ t1_0.toInt from (by have z25 : (0 : Int32).toInt = 0 := rfl; have t1 : 0 ≤ t1_0.toInt ∧ t1_0.toInt ≤ 220 := btt1_0; omega)), (show t1_0.toInt ≤ 220 from (by have z25 : (0 : Int32).toInt = 0 := rfl; have t1 : 0 ≤ t1_0.toInt ∧ t1_0.toInt ≤ 220 := btt1_0; omega)), (show 0 ≤ t1_1.toInt from (by have z25 : (0 : Int32).toInt = 0 := rfl; have t1 : 0 ≤ t1_1.toInt ∧ t1_1.toInt ≤ 1 := btt1_1; omega)), (show t1_1.toInt ≤ 1 from (by have z25 : (0 : Int32).toInt = 0 := rfl; have t1 : 0 ≤ t1_1.toInt ∧ t1_1.toInt ≤ 1 := btt1_1; omega)), (show 0 ≤ t3_0.toInt from (by have z25 : (0 : Int32).toInt = 0 := rfl; have t1 : 0 ≤ t3_0.toInt ∧ t3_0.toInt ≤ 220 := btt3_0; omega)), (show t3_0.toInt ≤ 220 from (by have z25 : (0 : Int32).toInt = 0 := rfl; have t1 : 0 ≤ t3_0.toInt ∧ t3_0.toInt ≤ 220 := btt3_0; omega)), (show 0 ≤ t3_1.toInt from (by have z25 : (0 : Int32).toInt = 0 := rfl; have t1 : 0 ≤ t3_1.toInt ∧ t3_1.toInt ≤ 1 := btt3_1; omega)), (show t3_1.toInt ≤ 1 from (by have z25 : (0 : Int32).toInt = 0 := rfl; have t1 : 0 ≤ t3_1.toInt ∧ t3_1.toInt ≤ 1 := btt3_1; omega)), (show 0 ≤ t5_0.toInt from (by have z25 : (0 : Int32).toInt = 0 := rfl; have t1 : 0 ≤ t5_0.toInt ∧ t5_0.toInt ≤ 220 := btt5_0; omega)), (show t5_0.toInt ≤ 220 from (by have z25 : (0 : Int32).toInt = 0 := rfl; have t1 : 0 ≤ t5_0.toInt ∧ t5_0.toInt ≤ 220 := btt5_0; omega)), (show 0 ≤ t5_1.toInt from (by have z25 : (0 : Int32).toInt = 0 := rfl; have t1 : 0 ≤ t5_1.toInt ∧ t5_1.toInt ≤ 1 := btt5_1; omega)), (show t5_1.toInt ≤ 1 from (by have z25 : (0 : Int32).toInt = 0 := rfl; have t1 : 0 ≤ t5_1.toInt ∧ t5_1.toInt ≤ 1 := btt5_1; omega)), (show 0 ≤ t11_0.toInt from (by have z25 : (0 : Int32).toInt = 0 := rfl; have t1 : 0 ≤ t11_0.toInt ∧ t11_0.toInt ≤ R2.toInt := btt11_0; omega)), (show t11_0.toInt ≤ 220 from (by have z25 : (0 : Int32).toInt = 0 := rfl; have t1 : 0 ≤ R2.toInt ∧ R2.toInt ≤ 220 := hfk30; have t2 : 0 ≤ t11_0.toInt ∧ t11_0.toInt ≤ R2.toInt := btt11_0; omega)), (show 0 ≤ t11_1.toInt from (by have z25 : (0 : Int32).toInt = 0 := rfl; have t1 : 0 ≤ t11_1.toInt ∧ t11_1.toInt ≤ 1 := btt11_1; omega)), (show t11_1.toInt ≤ 1 from (by have z25 : (0 : Int32).toInt = 0 := rfl; have t1 : 0 ≤ t11_1.toInt ∧ t11_1.toInt ≤ 1 := btt11_1; omega)), (show x4.toInt ≤ j55.toInt from (by have z25 : (0 : Int32).toInt = 0 := rfl; have t1 : j55.toInt = x4.toInt := b57; omega)), (show j55.toInt ≤ x4.toInt from (by have z25 : (0 : Int32).toInt = 0 := rfl; have t1 : j55.toInt = x4.toInt := b57; omega)), (show t1_0.toInt ≤ t8_0.toInt + 219 from (by have z25 : (0 : Int32).toInt = 0 := rfl; have t1 : 0 ≤ t1_0.toInt ∧ t1_0.toInt ≤ 220 := btt1_0; have t2 : 0 ≤ t8_0.toInt ∧ t8_0.toInt ≤ R.toInt := btt8_0; have t3 : t8_0.toInt ≠ 0 := b65; omega)), (show t1_1.toInt ≤ t8_0.toInt from (by have z25 : (0 : Int32).toInt = 0 := rfl; have t1 : 0 ≤ t1_1.toInt ∧ t1_1.toInt ≤ 1 := btt1_1; have t2 : 0 ≤ t8_0.toInt ∧ t8_0.toInt ≤ R.toInt := btt8_0; have t3 : t8_0.toInt ≠ 0 := b65; omega)), (show t3_1.toInt ≤ t3_1.toInt from (by have z25 : (0 : Int32).toInt = 0 := rfl; omega)), (show t11_0.toInt ≤ t11_0.toInt + 218 from (by have z25 : (0 : Int32).toInt = 0 := rfl; omega)), (show t11_0.toInt ≤ R2.toInt from (by have z25 : (0 : Int32).toInt = 0 := rfl; have t1 : 0 ≤ t11_0.toInt ∧ t11_0.toInt ≤ R2.toInt := btt11_0; omega)), (show t11_1.toInt ≤ t11_1.toInt from (by have z25 : (0 : Int32).toInt = 0 := rfl; omega)), (show ((0 : Int32), j55, t0_1, t1_0, t1_1, t2_0, t3_0, t3_1, t4_0, t5_0, t5_1, t6_0, t11_0, t11_1, t12_0) = (F_DW_divideToScale R R2 x4 x5 t0_0 t0_1 t1_0 t1_1 t2_0 t3_0 t3_1 t4_0 t5_0 t5_1 t6_0 t7_0 t7_1 t8_0 t8_1 t9_0 t10_0 t10_1 t11_0 t11_1 t12_0) from (by have c70x := c70; rw [← e69, ← e67, ← e63, ← e61] at c70x; rw [← e56, F_DW_divideToScale.eq_1, if_neg c64, if_neg c70x]))⟩) d_4_11_60
  ·
    refine lv_aload_n hx hb d_4_11_29 rfl (lv_at hl 1 rfl) ?_
    refine q_get (ci := 5) (j := 2) (v := .ref (q 9)) C0 V i_DW rfl rfl hT0 (by decide) w_214 rfl d_4_11_30 ?_
    have hO229 := n_o9 hI
    refine q_get (ci := 4) (j := 0) (v := .ref (q 10)) C0 V i_Mil rfl rfl hO229 (by decide) w_111 rfl d_4_11_33 ?_
    refine q_gov V (q_runV (As := []) (rest := []) (d := 1) (mc := 0) (ms := 0) (ci := 2) C0 V rfl LV_DW_135 (X_Big_clear l D g q w58 10 220 (n_b10 g q) (by decide)  hI t1_0 t1_1 hT1  _) rfl rfl hT1 rfl hl.1 rfl (Nat.le_of_ble_eq_true rfl) ⟨by decide, by decide⟩ ⟨Nat.le_of_ble_eq_true rfl, Nat.le_of_ble_eq_true rfl⟩ d_4_11_36) (fun u230 H locs hp231 V => ?_)
    obtain ⟨hI, hZ9⟩ := hp231
    obtain ⟨hu240, hZ9⟩ := hZ9
    obtain ⟨y233, hZ9⟩ := hZ9
    obtain ⟨y234, hZ9⟩ := hZ9
    obtain ⟨hO232, hZ9⟩ := hZ9
    obtain ⟨b235, hZ9⟩ := hZ9
    obtain ⟨b236, hZ9⟩ := hZ9
    obtain ⟨b237, hZ9⟩ := hZ9
    obtain ⟨b238, hE239⟩ := hZ9
    replace hO232 : u230[10]? = (some (q 10, .inr (2, [.ref (q 11), .int y233, .int y234])) : Option (Nat × va_E)) := hO232
    obtain ⟨p241, e242⟩ : ∃ z, z = (F_Big_clear (220 : Int32) t1_0 t1_1) := ⟨_, rfl⟩
    have e243 : y233 = p241.1 := congrArg (fun z => z.1) (hE239.trans e242.symm)
    have e244 : y234 = p241.2 := congrArg (fun z => z.2) (hE239.trans e242.symm)
    replace b235 : q_F (0 ≤ y234.toInt) := b235
    replace b236 : q_F (y234.toInt ≤ 0) := b236
    replace b237 : q_F (y234.toInt ≤ y233.toInt) := b237
    replace b238 : q_F (y233.toInt ≤ y234.toInt) := b238
    replace hT0 := (hu240 _ (by decide)).trans hT0
    replace hT2 := (hu240 _ (by decide)).trans hT2
    replace hT3 := (hu240 _ (by decide)).trans hT3
    replace hT4 := (hu240 _ (by decide)).trans hT4
    replace hT5 := (hu240 _ (by decide)).trans hT5
    replace hT6 := (hu240 _ (by decide)).trans hT6
    replace hT11 := (hu240 _ (by have z0 := zk3; simp only [List.mem_cons, List.not_mem_nil, or_false, not_or]; omega)).trans hT11
    replace hT12 := (hu240 _ (by have z0 := zk3; simp only [List.mem_cons, List.not_mem_nil, or_false, not_or]; omega)).trans hT12
    replace hF := q_uc hF hu240 (by first | exact (q_sk (q_mi 0 rfl) q_s0) | simp)
    have hR245 := (show F_DW_divideToScale_c36 R R2 x4 x5 t0_0 t0_1 t1_0 t1_1 t2_0 t3_0 t3_1 t4_0 t5_0 t5_1 t6_0 t7_0 t7_1 t8_0 t8_1 t9_0 t10_0 t10_1 t11_0 t11_1 t12_0 a62 j55 p241 = (F_DW_divideToScale R R2 x4 x5 t0_0 t0_1 t1_0 t1_1 t2_0 t3_0 t3_1 t4_0 t5_0 t5_1 t6_0 t7_0 t7_1 t8_0 t8_1 t9_0 t10_0 t10_1 t11_0 t11_1 t12_0) from (by rw [e242, ← e63, ← e61, ← e56, F_DW_divideToScale.eq_1, if_pos c64]))
    have hS246 := (show True ∧ S_DW_divideToScale_c36 R R2 x4 x5 t0_0 t0_1 t1_0 t1_1 t2_0 t3_0 t3_1 t4_0 t5_0 t5_1 t6_0 t7_0 t7_1 t8_0 t8_1 t9_0 t10_0 t10_1 t11_0 t11_1 t12_0 a62 j55 p241 from (by rw [e242, ← e63, ← e61, ← e56]; have h := hS; rw [S_DW_divideToScale.eq_1] at h; rw [if_pos c64] at h; with_reducible exact h))
    refine lv_iconst (v := 1) hx hb d_4_11_39 (by decide) ?_
    exact q_retz C0 V (by decide) (⟨hI, hF, j55, t0_1, y233, y234, t2_0, t3_0, t3_1, t4_0, t5_0, t5_1, t6_0, t11_0, t11_1, t12_0, hT0, hO232, hT2, hT3, hT4, hT5, hT6, hT11, hT12, (show 0 ≤ (1 : Int32).toInt from (by have z25 : (1 : Int32).toInt = 1 := rfl; omega)), (show (1 : Int32).toInt ≤ 1 from (by have z25 : (1 : Int32).toInt = 1 := rfl; omega)), (show 0 ≤ t0_1.toInt from (by have z25 : (1 : Int32).toInt = 1 := rfl; have t1 : 0 ≤ t0_1.toInt ∧ t0_1.toInt ≤ 1 := btt0_1; omega)), (show t0_1.toInt ≤ 1 from (by have z25 : (1 : Int32).toInt = 1 := rfl; have t1 : 0 ≤ t0_1.toInt ∧ t0_1.toInt ≤ 1 := btt0_1; omega)), (show 0 ≤ y233.toInt from (by have z25 : (1 : Int32).toInt = 1 := rfl; have t1 : 0 ≤ y234.toInt := b235; have t2 : y234.toInt ≤ y233.toInt := b237; omega)), (show y233.toInt ≤ 220 from (by have z25 : (1 : Int32).toInt = 1 := rfl; have t1 : y234.toInt ≤ 0 := b236; have t2 : y233.toInt ≤ y234.toInt := b238; omega)), (show 0 ≤ y234.toInt from (by have z25 : (1 : Int32).toInt = 1 := rfl; have t1 : 0 ≤ y234.toInt := b235; omega)), (show y234.toInt ≤ 1 from (by have z25 : (1 : Int32).toInt = 1 := rfl; have t1 : y234.toInt ≤ 0 := b236; omega)), (show 0 ≤ t3_0.toInt from (by have z25 : (1 : Int32).toInt = 1 := rfl; have t1 : 0 ≤ t3_0.toInt ∧ t3_0.toInt ≤ 220 := btt3_0; omega)), (show t3_0.toInt ≤ 220 from (by have z25 : (1 : Int32).toInt = 1 := rfl; have t1 : 0 ≤ t3_0.toInt ∧ t3_0.toInt ≤ 220 := btt3_0; omega)), (show 0 ≤ t3_1.toInt from (by have z25 : (1 : Int32).toInt = 1 := rfl; have t1 : 0 ≤ t3_1.toInt ∧ t3_1.toInt ≤ 1 := btt3_1; omega)), (show t3_1.toInt ≤ 1 from (by have z25 : (1 : Int32).toInt = 1 := rfl; have t1 : 0 ≤ t3_1.toInt ∧ t3_1.toInt ≤ 1 := btt3_1; omega)), (show 0 ≤ t5_0.toInt from (by have z25 : (1 : Int32).toInt = 1 := rfl; have t1 : 0 ≤ t5_0.toInt ∧ t5_0.toInt ≤ 220 := btt5_0; omega)), (show t5_0.toInt ≤ 220 from (by have z25 : (1 : Int32).toInt = 1 := rfl; have t1 : 0 ≤ t5_0.toInt ∧ t5_0.toInt ≤ 220 := btt5_0; omega)), (show 0 ≤ t5_1.toInt from (by have z25 : (1 : Int32).toInt = 1 := rfl; have t1 : 0 ≤ t5_1.toInt ∧ t5_1.toInt ≤ 1 := btt5_1; omega)), (show t5_1.toInt ≤ 1 from (by have z25 : (1 : Int32).toInt = 1 := rfl; have t1 : 0 ≤ t5_1.toInt ∧ t5_1.toInt ≤ 1 := btt5_1; omega)), (show 0 ≤ t11_0.toInt from (by have z25 : (1 : Int32).toInt = 1 := rfl; have t1 : 0 ≤ t11_0.toInt ∧ t11_0.toInt ≤ R2.toInt := btt11_0; omega)), (show t11_0.toInt ≤ 220 from (by have z25 : (1 : Int32).toInt = 1 := rfl; have t1 : 0 ≤ R2.toInt ∧ R2.toInt ≤ 220 := hfk30; have t2 : 0 ≤ t11_0.toInt ∧ t11_0.toInt ≤ R2.toInt := btt11_0; omega)), (show 0 ≤ t11_1.toInt from (by have z25 : (1 : Int32).toInt = 1 := rfl; have t1 : 0 ≤ t11_1.toInt ∧ t11_1.toInt ≤ 1 := btt11_1; omega)), (show t11_1.toInt ≤ 1 from (by have z25 : (1 : Int32).toInt = 1 := rfl; have t1 : 0 ≤ t11_1.toInt ∧ t11_1.toInt ≤ 1 := btt11_1; omega)), (show x4.toInt ≤ j55.toInt from (by have z25 : (1 : Int32).toInt = 1 := rfl; have t1 : j55.toInt = x4.toInt := b57; omega)), (show j55.toInt ≤ x4.toInt from (by have z25 : (1 : Int32).toInt = 1 := rfl; have t1 : j55.toInt = x4.toInt := b57; omega)), (show y233.toInt ≤ t8_0.toInt + 219 from (by have z25 : (1 : Int32).toInt = 1 := rfl; have t1 : 0 ≤ t8_0.toInt ∧ t8_0.toInt ≤ R.toInt := btt8_0; have t2 : y234.toInt ≤ 0 := b236; have t3 : y233.toInt ≤ y234.toInt := b238; omega)), (show y234.toInt ≤ t8_0.toInt from (by have z25 : (1 : Int32).toInt = 1 := rfl; have t1 : 0 ≤ t8_0.toInt ∧ t8_0.toInt ≤ R.toInt := btt8_0; have t2 : y234.toInt ≤ 0 := b236; omega)), (show t3_1.toInt ≤ t3_1.toInt from (by have z25 : (1 : Int32).toInt = 1 := rfl; omega)), (show t11_0.toInt ≤ t11_0.toInt + 218 from (by have z25 : (1 : Int32).toInt = 1 := rfl; omega)), (show t11_0.toInt ≤ R2.toInt from (by have z25 : (1 : Int32).toInt = 1 := rfl; have t1 : 0 ≤ t11_0.toInt ∧ t11_0.toInt ≤ R2.toInt := btt11_0; omega)), (show t11_1.toInt ≤ t11_1.toInt from (by have z25 : (1 : Int32).toInt = 1 := rfl; omega)), (show ((1 : Int32), j55, t0_1, y233, y234, t2_0, t3_0, t3_1, t4_0, t5_0, t5_1, t6_0, t11_0, t11_1, t12_0) = (F_DW_divideToScale R R2 x4 x5 t0_0 t0_1 t1_0 t1_1 t2_0 t3_0 t3_1 t4_0 t5_0 t5_1 t6_0 t7_0 t7_1 t8_0 t8_1 t9_0 t10_0 t10_1 t11_0 t11_1 t12_0) from Eq.trans (by rw [e244, e243, F_DW_divideToScale_c36.eq_1]) hR245)⟩) d_4_11_40

