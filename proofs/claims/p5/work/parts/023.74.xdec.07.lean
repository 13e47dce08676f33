def F_DW_divideToPrecision_a_c183 (R2 : Int32) (x4 : Int32) (x5 : Int32) (t0_0 : Int64) (t0_1 : Int32) (t1_0 : Int32) (t1_1 : Int32) (t2_0 : (Nat → Int32)) (t3_0 : Int32) (t3_1 : Int32) (t4_0 : (Nat → Int32)) (t5_0 : Int32) (t5_1 : Int32) (t6_0 : (Nat → Int32)) (t7_0 : Int32) (t7_1 : Int32) (t8_0 : (Nat → Int32)) (t9_0 : Int32) (t9_1 : Int32) (t10_0 : Int32) (t10_1 : Int32) (t11_0 : (Nat → Int32)) (j56 : Int64) (lx61 : Int32) (a86 : Int32) (p137 : (Int64 × Int32 × Int32 × Int32 × (Nat → Int32) × Int32 × Int32 × (Nat → Int32) × Int32 × Int32 × (Nat → Int32) × Int32 × Int32 × (Nat → Int32))) (j164 : Int64) (y93 : Int32) (y95 : Int32) (y96 : Int32) (f97 : (Nat → Int32)) (y100 : Int32) (y101 : Int32) (f102 : (Nat → Int32)) (y105 : Int32) (y106 : Int32) (f107 : (Nat → Int32)) (y110 : Int32) (y111 : Int32) (f112 : (Nat → Int32)) (p184 : (Int32 × Int32 × Int32 × (Nat → Int32))) (y174 : Int32) (y175 : Int32) (f176 : (Nat → Int32)) (lx197 : Int64) (lx198 : Int32) (lx199 : Int32) (lx200 : Int32) (lx201 : (Nat → Int32)) (p270 : (Int32 × Int64 × Int32 × Int32 × Int32 × (Nat → Int32) × Int32 × Int32 × (Nat → Int32) × Int32 × Int32 × (Nat → Int32))) : Int32 × Int64 × Int32 × Int32 × Int32 × (Nat → Int32) × Int32 × Int32 × (Nat → Int32) × Int32 × Int32 × (Nat → Int32) × Int32 × Int32 × (Nat → Int32) × Int32 × Int32 × (Nat → Int32) := ((p270.1 : Int32), (p270.2.1 : Int64), (p270.2.2.1 : Int32), (p270.2.2.2.1 : Int32), (p270.2.2.2.2.1 : Int32), (p270.2.2.2.2.2.1 : (Nat → Int32)), y100, y101, f102, (p270.2.2.2.2.2.2.1 : Int32), (p270.2.2.2.2.2.2.2.1 : Int32), (p270.2.2.2.2.2.2.2.2.1 : (Nat → Int32)), (p270.2.2.2.2.2.2.2.2.2.1 : Int32), (p270.2.2.2.2.2.2.2.2.2.2.1 : Int32), (p270.2.2.2.2.2.2.2.2.2.2.2 : (Nat → Int32)), y110, y111, f112)
def F_DW_divideToPrecision_a_c183_6 (R2 : Int32) (x4 : Int32) (x5 : Int32) (t0_0 : Int64) (t0_1 : Int32) (t1_0 : Int32) (t1_1 : Int32) (t2_0 : (Nat → Int32)) (t3_0 : Int32) (t3_1 : Int32) (t4_0 : (Nat → Int32)) (t5_0 : Int32) (t5_1 : Int32) (t6_0 : (Nat → Int32)) (t7_0 : Int32) (t7_1 : Int32) (t8_0 : (Nat → Int32)) (t9_0 : Int32) (t9_1 : Int32) (t10_0 : Int32) (t10_1 : Int32) (t11_0 : (Nat → Int32)) (j56 : Int64) (lx61 : Int32) (a86 : Int32) (p137 : (Int64 × Int32 × Int32 × Int32 × (Nat → Int32) × Int32 × Int32 × (Nat → Int32) × Int32 × Int32 × (Nat → Int32) × Int32 × Int32 × (Nat → Int32))) (j164 : Int64) (y93 : Int32) (y95 : Int32) (y96 : Int32) (f97 : (Nat → Int32)) (y100 : Int32) (y101 : Int32) (f102 : (Nat → Int32)) (y105 : Int32) (y106 : Int32) (f107 : (Nat → Int32)) (y110 : Int32) (y111 : Int32) (f112 : (Nat → Int32)) (p184 : (Int32 × Int32 × Int32 × (Nat → Int32))) (y174 : Int32) (y175 : Int32) (f176 : (Nat → Int32)) (lx197 : Int64) (lx198 : Int32) (lx199 : Int32) (lx200 : Int32) (lx201 : (Nat → Int32)) (p330 : (Int32 × Int64 × Int32 × Int32 × Int32 × (Nat → Int32) × Int32 × Int32 × (Nat → Int32) × Int32 × Int32 × (Nat → Int32))) : Int32 × Int64 × Int32 × Int32 × Int32 × (Nat → Int32) × Int32 × Int32 × (Nat → Int32) × Int32 × Int32 × (Nat → Int32) × Int32 × Int32 × (Nat → Int32) × Int32 × Int32 × (Nat → Int32) := ((p330.1 : Int32), (p330.2.1 : Int64), (p330.2.2.1 : Int32), (p330.2.2.2.1 : Int32), (p330.2.2.2.2.1 : Int32), (p330.2.2.2.2.2.1 : (Nat → Int32)), y100, y101, f102, (p330.2.2.2.2.2.2.1 : Int32), (p330.2.2.2.2.2.2.2.1 : Int32), (p330.2.2.2.2.2.2.2.2.1 : (Nat → Int32)), (p330.2.2.2.2.2.2.2.2.2.1 : Int32), (p330.2.2.2.2.2.2.2.2.2.2.1 : Int32), (p330.2.2.2.2.2.2.2.2.2.2.2 : (Nat → Int32)), y110, y111, f112)
def F_DW_divideToPrecision_a_J141 (R2 : Int32) (x4 : Int32) (x5 : Int32) (t0_0 : Int64) (t0_1 : Int32) (t1_0 : Int32) (t1_1 : Int32) (t2_0 : (Nat → Int32)) (t3_0 : Int32) (t3_1 : Int32) (t4_0 : (Nat → Int32)) (t5_0 : Int32) (t5_1 : Int32) (t6_0 : (Nat → Int32)) (t7_0 : Int32) (t7_1 : Int32) (t8_0 : (Nat → Int32)) (t9_0 : Int32) (t9_1 : Int32) (t10_0 : Int32) (t10_1 : Int32) (t11_0 : (Nat → Int32)) (j56 : Int64) (lx61 : Int32) (a86 : Int32) (p137 : (Int64 × Int32 × Int32 × Int32 × (Nat → Int32) × Int32 × Int32 × (Nat → Int32) × Int32 × Int32 × (Nat → Int32) × Int32 × Int32 × (Nat → Int32))) (j164 : Int64) (y93 : Int32) (y95 : Int32) (y96 : Int32) (f97 : (Nat → Int32)) (y100 : Int32) (y101 : Int32) (f102 : (Nat → Int32)) (y105 : Int32) (y106 : Int32) (f107 : (Nat → Int32)) (y110 : Int32) (y111 : Int32) (f112 : (Nat → Int32)) (p184 : (Int32 × Int32 × Int32 × (Nat → Int32))) (y174 : Int32) (y175 : Int32) (f176 : (Nat → Int32)) (lx197 : Int64) (lx198 : Int32) (lx199 : Int32) (lx200 : Int32) (lx201 : (Nat → Int32)) : Int32 × Int64 × Int32 × Int32 × Int32 × (Nat → Int32) × Int32 × Int32 × (Nat → Int32) × Int32 × Int32 × (Nat → Int32) × Int32 × Int32 × (Nat → Int32) × Int32 × Int32 × (Nat → Int32) := if x4 = (0 : Int32) then (F_DW_divideToPrecision_a_c183_6 R2 x4 x5 t0_0 t0_1 t1_0 t1_1 t2_0 t3_0 t3_1 t4_0 t5_0 t5_1 t6_0 t7_0 t7_1 t8_0 t9_0 t9_1 t10_0 t10_1 t11_0 j56 lx61 a86 p137 j164 y93 y95 y96 f97 y100 y101 f102 y105 y106 f107 y110 y111 f112 p184 y174 y175 f176 lx197 lx198 lx199 lx200 lx201 ((F_DW_shorten (0 : Int32) lx61 j56 (7 : Int32) lx197 lx198 lx199 lx200 lx201 y105 y106 f107 y174 y175 f176) : (Int32 × Int64 × Int32 × Int32 × Int32 × (Nat → Int32) × Int32 × Int32 × (Nat → Int32) × Int32 × Int32 × (Nat → Int32)))) else (F_DW_divideToPrecision_a_c183 R2 x4 x5 t0_0 t0_1 t1_0 t1_1 t2_0 t3_0 t3_1 t4_0 t5_0 t5_1 t6_0 t7_0 t7_1 t8_0 t9_0 t9_1 t10_0 t10_1 t11_0 j56 lx61 a86 p137 j164 y93 y95 y96 f97 y100 y101 f102 y105 y106 f107 y110 y111 f112 p184 y174 y175 f176 lx197 lx198 lx199 lx200 lx201 ((F_DW_shorten (0 : Int32) lx61 j56 x5 lx197 lx198 lx199 lx200 lx201 y105 y106 f107 y174 y175 f176) : (Int32 × Int64 × Int32 × Int32 × Int32 × (Nat → Int32) × Int32 × Int32 × (Nat → Int32) × Int32 × Int32 × (Nat → Int32))))
def F_DW_divideToPrecision_a_c124 (R2 : Int32) (x4 : Int32) (x5 : Int32) (t0_0 : Int64) (t0_1 : Int32) (t1_0 : Int32) (t1_1 : Int32) (t2_0 : (Nat → Int32)) (t3_0 : Int32) (t3_1 : Int32) (t4_0 : (Nat → Int32)) (t5_0 : Int32) (t5_1 : Int32) (t6_0 : (Nat → Int32)) (t7_0 : Int32) (t7_1 : Int32) (t8_0 : (Nat → Int32)) (t9_0 : Int32) (t9_1 : Int32) (t10_0 : Int32) (t10_1 : Int32) (t11_0 : (Nat → Int32)) (j56 : Int64) (lx61 : Int32) (a86 : Int32) (p137 : (Int64 × Int32 × Int32 × Int32 × (Nat → Int32) × Int32 × Int32 × (Nat → Int32) × Int32 × Int32 × (Nat → Int32) × Int32 × Int32 × (Nat → Int32))) (j164 : Int64) (y93 : Int32) (y95 : Int32) (y96 : Int32) (f97 : (Nat → Int32)) (y100 : Int32) (y101 : Int32) (f102 : (Nat → Int32)) (y105 : Int32) (y106 : Int32) (f107 : (Nat → Int32)) (y110 : Int32) (y111 : Int32) (f112 : (Nat → Int32)) (p184 : (Int32 × Int32 × Int32 × (Nat → Int32))) (y174 : Int32) (y175 : Int32) (f176 : (Nat → Int32)) (p369 : (Int32 × Int32 × Int32 × (Nat → Int32))) : Int32 × Int64 × Int32 × Int32 × Int32 × (Nat → Int32) × Int32 × Int32 × (Nat → Int32) × Int32 × Int32 × (Nat → Int32) × Int32 × Int32 × (Nat → Int32) × Int32 × Int32 × (Nat → Int32) := F_DW_divideToPrecision_a_J141 R2 x4 x5 t0_0 t0_1 t1_0 t1_1 t2_0 t3_0 t3_1 t4_0 t5_0 t5_1 t6_0 t7_0 t7_1 t8_0 t9_0 t9_1 t10_0 t10_1 t11_0 j56 lx61 a86 p137 j164 y93 y95 y96 f97 y100 y101 f102 y105 y106 f107 y110 y111 f112 p184 y174 y175 f176 (j164 - 1 : Int64) (y93 ||| (p369.1 : Int32) : Int32) (p369.2.1 : Int32) (p369.2.2.1 : Int32) (p369.2.2.2 : (Nat → Int32))
def F_DW_divideToPrecision_a_c101 (R2 : Int32) (x4 : Int32) (x5 : Int32) (t0_0 : Int64) (t0_1 : Int32) (t1_0 : Int32) (t1_1 : Int32) (t2_0 : (Nat → Int32)) (t3_0 : Int32) (t3_1 : Int32) (t4_0 : (Nat → Int32)) (t5_0 : Int32) (t5_1 : Int32) (t6_0 : (Nat → Int32)) (t7_0 : Int32) (t7_1 : Int32) (t8_0 : (Nat → Int32)) (t9_0 : Int32) (t9_1 : Int32) (t10_0 : Int32) (t10_1 : Int32) (t11_0 : (Nat → Int32)) (j56 : Int64) (lx61 : Int32) (a86 : Int32) (p137 : (Int64 × Int32 × Int32 × Int32 × (Nat → Int32) × Int32 × Int32 × (Nat → Int32) × Int32 × Int32 × (Nat → Int32) × Int32 × Int32 × (Nat → Int32))) (j164 : Int64) (y93 : Int32) (y95 : Int32) (y96 : Int32) (f97 : (Nat → Int32)) (y100 : Int32) (y101 : Int32) (f102 : (Nat → Int32)) (y105 : Int32) (y106 : Int32) (f107 : (Nat → Int32)) (y110 : Int32) (y111 : Int32) (f112 : (Nat → Int32)) (p184 : (Int32 × Int32 × Int32 × (Nat → Int32))) : Int32 × Int64 × Int32 × Int32 × Int32 × (Nat → Int32) × Int32 × Int32 × (Nat → Int32) × Int32 × Int32 × (Nat → Int32) × Int32 × Int32 × (Nat → Int32) × Int32 × Int32 × (Nat → Int32) := if (p184.1 : Int32) ≤ (lx61 + 1 : Int32) then (F_DW_divideToPrecision_a_J141 R2 x4 x5 t0_0 t0_1 t1_0 t1_1 t2_0 t3_0 t3_1 t4_0 t5_0 t5_1 t6_0 t7_0 t7_1 t8_0 t9_0 t9_1 t10_0 t10_1 t11_0 j56 lx61 a86 p137 j164 y93 y95 y96 f97 y100 y101 f102 y105 y106 f107 y110 y111 f112 p184 (p184.2.1 : Int32) (p184.2.2.1 : Int32) (p184.2.2.2 : (Nat → Int32)) j164 y93 y95 y96 f97) else (F_DW_divideToPrecision_a_c124 R2 x4 x5 t0_0 t0_1 t1_0 t1_1 t2_0 t3_0 t3_1 t4_0 t5_0 t5_1 t6_0 t7_0 t7_1 t8_0 t9_0 t9_1 t10_0 t10_1 t11_0 j56 lx61 a86 p137 j164 y93 y95 y96 f97 y100 y101 f102 y105 y106 f107 y110 y111 f112 p184 (p184.2.1 : Int32) (p184.2.2.1 : Int32) (p184.2.2.2 : (Nat → Int32)) ((F_Big_dropFigures (220 : Int32) (1 : Int32) y95 y96 f97) : (Int32 × Int32 × Int32 × (Nat → Int32))))
def F_DW_divideToPrecision_a_c75 (R2 : Int32) (x4 : Int32) (x5 : Int32) (t0_0 : Int64) (t0_1 : Int32) (t1_0 : Int32) (t1_1 : Int32) (t2_0 : (Nat → Int32)) (t3_0 : Int32) (t3_1 : Int32) (t4_0 : (Nat → Int32)) (t5_0 : Int32) (t5_1 : Int32) (t6_0 : (Nat → Int32)) (t7_0 : Int32) (t7_1 : Int32) (t8_0 : (Nat → Int32)) (t9_0 : Int32) (t9_1 : Int32) (t10_0 : Int32) (t10_1 : Int32) (t11_0 : (Nat → Int32)) (j56 : Int64) (lx61 : Int32) (a86 : Int32) (p137 : (Int64 × Int32 × Int32 × Int32 × (Nat → Int32) × Int32 × Int32 × (Nat → Int32) × Int32 × Int32 × (Nat → Int32) × Int32 × Int32 × (Nat → Int32))) : Int32 × Int64 × Int32 × Int32 × Int32 × (Nat → Int32) × Int32 × Int32 × (Nat → Int32) × Int32 × Int32 × (Nat → Int32) × Int32 × Int32 × (Nat → Int32) × Int32 × Int32 × (Nat → Int32) := F_DW_divideToPrecision_a_c101 R2 x4 x5 t0_0 t0_1 t1_0 t1_1 t2_0 t3_0 t3_1 t4_0 t5_0 t5_1 t6_0 t7_0 t7_1 t8_0 t9_0 t9_1 t10_0 t10_1 t11_0 j56 lx61 a86 p137 ((j56 + (a86.toInt64 : Int64) : Int64) - 1 : Int64) (p137.2.1 : Int32) (p137.2.2.1 : Int32) (p137.2.2.2.1 : Int32) (p137.2.2.2.2.1 : (Nat → Int32)) (p137.2.2.2.2.2.1 : Int32) (p137.2.2.2.2.2.2.1 : Int32) (p137.2.2.2.2.2.2.2.1 : (Nat → Int32)) (p137.2.2.2.2.2.2.2.2.1 : Int32) (p137.2.2.2.2.2.2.2.2.2.1 : Int32) (p137.2.2.2.2.2.2.2.2.2.2.1 : (Nat → Int32)) (p137.2.2.2.2.2.2.2.2.2.2.2.1 : Int32) (p137.2.2.2.2.2.2.2.2.2.2.2.2.1 : Int32) (p137.2.2.2.2.2.2.2.2.2.2.2.2.2 : (Nat → Int32)) ((F_Mil_countFigures (220 : Int32) t7_0 t7_1 t8_0 (p137.2.2.1 : Int32) (p137.2.2.2.1 : Int32) (p137.2.2.2.2.1 : (Nat → Int32))) : (Int32 × Int32 × Int32 × (Nat → Int32)))
def F_DW_divideToPrecision_a_J52 (R2 : Int32) (x4 : Int32) (x5 : Int32) (t0_0 : Int64) (t0_1 : Int32) (t1_0 : Int32) (t1_1 : Int32) (t2_0 : (Nat → Int32)) (t3_0 : Int32) (t3_1 : Int32) (t4_0 : (Nat → Int32)) (t5_0 : Int32) (t5_1 : Int32) (t6_0 : (Nat → Int32)) (t7_0 : Int32) (t7_1 : Int32) (t8_0 : (Nat → Int32)) (t9_0 : Int32) (t9_1 : Int32) (t10_0 : Int32) (t10_1 : Int32) (t11_0 : (Nat → Int32)) (j56 : Int64) (lx61 : Int32) : Int32 × Int64 × Int32 × Int32 × Int32 × (Nat → Int32) × Int32 × Int32 × (Nat → Int32) × Int32 × Int32 × (Nat → Int32) × Int32 × Int32 × (Nat → Int32) × Int32 × Int32 × (Nat → Int32) := F_DW_divideToPrecision_a_c75 R2 x4 x5 t0_0 t0_1 t1_0 t1_1 t2_0 t3_0 t3_1 t4_0 t5_0 t5_1 t6_0 t7_0 t7_1 t8_0 t9_0 t9_1 t10_0 t10_1 t11_0 j56 lx61 (((lx61 + 1 : Int32) - t9_1 : Int32) + t9_1 : Int32) ((F_DW_divideRaised_a R2 (((lx61 + 1 : Int32) - t9_1 : Int32) + t9_1 : Int32) t0_0 t0_1 t1_0 t1_1 t2_0 t3_0 t3_1 t4_0 t5_0 t5_1 t6_0 t9_0 t9_1 t10_0 t10_1 t11_0) : (Int64 × Int32 × Int32 × Int32 × (Nat → Int32) × Int32 × Int32 × (Nat → Int32) × Int32 × Int32 × (Nat → Int32) × Int32 × Int32 × (Nat → Int32)))
def F_DW_divideToPrecision_a_c30 (R2 : Int32) (x4 : Int32) (x5 : Int32) (t0_0 : Int64) (t0_1 : Int32) (t1_0 : Int32) (t1_1 : Int32) (t2_0 : (Nat → Int32)) (t3_0 : Int32) (t3_1 : Int32) (t4_0 : (Nat → Int32)) (t5_0 : Int32) (t5_1 : Int32) (t6_0 : (Nat → Int32)) (t7_0 : Int32) (t7_1 : Int32) (t8_0 : (Nat → Int32)) (t9_0 : Int32) (t9_1 : Int32) (t10_0 : Int32) (t10_1 : Int32) (t11_0 : (Nat → Int32)) (j56 : Int64) (p405 : (Int32 × Int32)) : Int32 × Int64 × Int32 × Int32 × Int32 × (Nat → Int32) × Int32 × Int32 × (Nat → Int32) × Int32 × Int32 × (Nat → Int32) × Int32 × Int32 × (Nat → Int32) × Int32 × Int32 × (Nat → Int32) := ((1 : Int32), j56, t0_1, (p405.1 : Int32), (p405.2 : Int32), t2_0, t3_0, t3_1, t4_0, t5_0, t5_1, t6_0, t7_0, t7_1, t8_0, t10_0, t10_1, t11_0)
def F_DW_divideToPrecision_a (R2 : Int32) (x4 : Int32) (x5 : Int32) (t0_0 : Int64) (t0_1 : Int32) (t1_0 : Int32) (t1_1 : Int32) (t2_0 : (Nat → Int32)) (t3_0 : Int32) (t3_1 : Int32) (t4_0 : (Nat → Int32)) (t5_0 : Int32) (t5_1 : Int32) (t6_0 : (Nat → Int32)) (t7_0 : Int32) (t7_1 : Int32) (t8_0 : (Nat → Int32)) (t9_0 : Int32) (t9_1 : Int32) (t10_0 : Int32) (t10_1 : Int32) (t11_0 : (Nat → Int32)) : Int32 × Int64 × Int32 × Int32 × Int32 × (Nat → Int32) × Int32 × Int32 × (Nat → Int32) × Int32 × Int32 × (Nat → Int32) × Int32 × Int32 × (Nat → Int32) × Int32 × Int32 × (Nat → Int32) := if t10_0 = (0 : Int32) then (F_DW_divideToPrecision_a_c30 R2 x4 x5 t0_0 t0_1 t1_0 t1_1 t2_0 t3_0 t3_1 t4_0 t5_0 t5_1 t6_0 t7_0 t7_1 t8_0 t9_0 t9_1 t10_0 t10_1 t11_0 ((t9_0.toInt64 : Int64) - (t9_0.toInt64 : Int64) : Int64) ((F_Big_clear (220 : Int32) t1_0 t1_1) : (Int32 × Int32))) else (if x4 = (0 : Int32) then (F_DW_divideToPrecision_a_J52 R2 x4 x5 t0_0 t0_1 t1_0 t1_1 t2_0 t3_0 t3_1 t4_0 t5_0 t5_1 t6_0 t7_0 t7_1 t8_0 t9_0 t9_1 t10_0 t10_1 t11_0 ((t9_0.toInt64 : Int64) - (t9_0.toInt64 : Int64) : Int64) 1000) else (F_DW_divideToPrecision_a_J52 R2 x4 x5 t0_0 t0_1 t1_0 t1_1 t2_0 t3_0 t3_1 t4_0 t5_0 t5_1 t6_0 t7_0 t7_1 t8_0 t9_0 t9_1 t10_0 t10_1 t11_0 ((t9_0.toInt64 : Int64) - (t9_0.toInt64 : Int64) : Int64) x4))
def S_DW_divideToPrecision_a_c183 (R2 : Int32) (x4 : Int32) (x5 : Int32) (t0_0 : Int64) (t0_1 : Int32) (t1_0 : Int32) (t1_1 : Int32) (t2_0 : (Nat → Int32)) (t3_0 : Int32) (t3_1 : Int32) (t4_0 : (Nat → Int32)) (t5_0 : Int32) (t5_1 : Int32) (t6_0 : (Nat → Int32)) (t7_0 : Int32) (t7_1 : Int32) (t8_0 : (Nat → Int32)) (t9_0 : Int32) (t9_1 : Int32) (t10_0 : Int32) (t10_1 : Int32) (t11_0 : (Nat → Int32)) (j56 : Int64) (lx61 : Int32) (a86 : Int32) (p137 : (Int64 × Int32 × Int32 × Int32 × (Nat → Int32) × Int32 × Int32 × (Nat → Int32) × Int32 × Int32 × (Nat → Int32) × Int32 × Int32 × (Nat → Int32))) (j164 : Int64) (y93 : Int32) (y95 : Int32) (y96 : Int32) (f97 : (Nat → Int32)) (y100 : Int32) (y101 : Int32) (f102 : (Nat → Int32)) (y105 : Int32) (y106 : Int32) (f107 : (Nat → Int32)) (y110 : Int32) (y111 : Int32) (f112 : (Nat → Int32)) (p184 : (Int32 × Int32 × Int32 × (Nat → Int32))) (y174 : Int32) (y175 : Int32) (f176 : (Nat → Int32)) (lx197 : Int64) (lx198 : Int32) (lx199 : Int32) (lx200 : Int32) (lx201 : (Nat → Int32)) (p270 : (Int32 × Int64 × Int32 × Int32 × Int32 × (Nat → Int32) × Int32 × Int32 × (Nat → Int32) × Int32 × Int32 × (Nat → Int32))) : Prop := True
def S_DW_divideToPrecision_a_c183_6 (R2 : Int32) (x4 : Int32) (x5 : Int32) (t0_0 : Int64) (t0_1 : Int32) (t1_0 : Int32) (t1_1 : Int32) (t2_0 : (Nat → Int32)) (t3_0 : Int32) (t3_1 : Int32) (t4_0 : (Nat → Int32)) (t5_0 : Int32) (t5_1 : Int32) (t6_0 : (Nat → Int32)) (t7_0 : Int32) (t7_1 : Int32) (t8_0 : (Nat → Int32)) (t9_0 : Int32) (t9_1 : Int32) (t10_0 : Int32) (t10_1 : Int32) (t11_0 : (Nat → Int32)) (j56 : Int64) (lx61 : Int32) (a86 : Int32) (p137 : (Int64 × Int32 × Int32 × Int32 × (Nat → Int32) × Int32 × Int32 × (Nat → Int32) × Int32 × Int32 × (Nat → Int32) × Int32 × Int32 × (Nat → Int32))) (j164 : Int64) (y93 : Int32) (y95 : Int32) (y96 : Int32) (f97 : (Nat → Int32)) (y100 : Int32) (y101 : Int32) (f102 : (Nat → Int32)) (y105 : Int32) (y106 : Int32) (f107 : (Nat → Int32)) (y110 : Int32) (y111 : Int32) (f112 : (Nat → Int32)) (p184 : (Int32 × Int32 × Int32 × (Nat → Int32))) (y174 : Int32) (y175 : Int32) (f176 : (Nat → Int32)) (lx197 : Int64) (lx198 : Int32) (lx199 : Int32) (lx200 : Int32) (lx201 : (Nat → Int32)) (p330 : (Int32 × Int64 × Int32 × Int32 × Int32 × (Nat → Int32) × Int32 × Int32 × (Nat → Int32) × Int32 × Int32 × (Nat → Int32))) : Prop := True
def S_DW_divideToPrecision_a_J141 (R2 : Int32) (x4 : Int32) (x5 : Int32) (t0_0 : Int64) (t0_1 : Int32) (t1_0 : Int32) (t1_1 : Int32) (t2_0 : (Nat → Int32)) (t3_0 : Int32) (t3_1 : Int32) (t4_0 : (Nat → Int32)) (t5_0 : Int32) (t5_1 : Int32) (t6_0 : (Nat → Int32)) (t7_0 : Int32) (t7_1 : Int32) (t8_0 : (Nat → Int32)) (t9_0 : Int32) (t9_1 : Int32) (t10_0 : Int32) (t10_1 : Int32) (t11_0 : (Nat → Int32)) (j56 : Int64) (lx61 : Int32) (a86 : Int32) (p137 : (Int64 × Int32 × Int32 × Int32 × (Nat → Int32) × Int32 × Int32 × (Nat → Int32) × Int32 × Int32 × (Nat → Int32) × Int32 × Int32 × (Nat → Int32))) (j164 : Int64) (y93 : Int32) (y95 : Int32) (y96 : Int32) (f97 : (Nat → Int32)) (y100 : Int32) (y101 : Int32) (f102 : (Nat → Int32)) (y105 : Int32) (y106 : Int32) (f107 : (Nat → Int32)) (y110 : Int32) (y111 : Int32) (f112 : (Nat → Int32)) (p184 : (Int32 × Int32 × Int32 × (Nat → Int32))) (y174 : Int32) (y175 : Int32) (f176 : (Nat → Int32)) (lx197 : Int64) (lx198 : Int32) (lx199 : Int32) (lx200 : Int32) (lx201 : (Nat → Int32)) : Prop := if x4 = (0 : Int32) then (S_DW_divideToPrecision_a_c183_6 R2 x4 x5 t0_0 t0_1 t1_0 t1_1 t2_0 t3_0 t3_1 t4_0 t5_0 t5_1 t6_0 t7_0 t7_1 t8_0 t9_0 t9_1 t10_0 t10_1 t11_0 j56 lx61 a86 p137 j164 y93 y95 y96 f97 y100 y101 f102 y105 y106 f107 y110 y111 f112 p184 y174 y175 f176 lx197 lx198 lx199 lx200 lx201 ((F_DW_shorten (0 : Int32) lx61 j56 (7 : Int32) lx197 lx198 lx199 lx200 lx201 y105 y106 f107 y174 y175 f176) : (Int32 × Int64 × Int32 × Int32 × Int32 × (Nat → Int32) × Int32 × Int32 × (Nat → Int32) × Int32 × Int32 × (Nat → Int32)))) else (S_DW_divideToPrecision_a_c183 R2 x4 x5 t0_0 t0_1 t1_0 t1_1 t2_0 t3_0 t3_1 t4_0 t5_0 t5_1 t6_0 t7_0 t7_1 t8_0 t9_0 t9_1 t10_0 t10_1 t11_0 j56 lx61 a86 p137 j164 y93 y95 y96 f97 y100 y101 f102 y105 y106 f107 y110 y111 f112 p184 y174 y175 f176 lx197 lx198 lx199 lx200 lx201 ((F_DW_shorten (0 : Int32) lx61 j56 x5 lx197 lx198 lx199 lx200 lx201 y105 y106 f107 y174 y175 f176) : (Int32 × Int64 × Int32 × Int32 × Int32 × (Nat → Int32) × Int32 × Int32 × (Nat → Int32) × Int32 × Int32 × (Nat → Int32))))
def S_DW_divideToPrecision_a_c124 (R2 : Int32) (x4 : Int32) (x5 : Int32) (t0_0 : Int64) (t0_1 : Int32) (t1_0 : Int32) (t1_1 : Int32) (t2_0 : (Nat → Int32)) (t3_0 : Int32) (t3_1 : Int32) (t4_0 : (Nat → Int32)) (t5_0 : Int32) (t5_1 : Int32) (t6_0 : (Nat → Int32)) (t7_0 : Int32) (t7_1 : Int32) (t8_0 : (Nat → Int32)) (t9_0 : Int32) (t9_1 : Int32) (t10_0 : Int32) (t10_1 : Int32) (t11_0 : (Nat → Int32)) (j56 : Int64) (lx61 : Int32) (a86 : Int32) (p137 : (Int64 × Int32 × Int32 × Int32 × (Nat → Int32) × Int32 × Int32 × (Nat → Int32) × Int32 × Int32 × (Nat → Int32) × Int32 × Int32 × (Nat → Int32))) (j164 : Int64) (y93 : Int32) (y95 : Int32) (y96 : Int32) (f97 : (Nat → Int32)) (y100 : Int32) (y101 : Int32) (f102 : (Nat → Int32)) (y105 : Int32) (y106 : Int32) (f107 : (Nat → Int32)) (y110 : Int32) (y111 : Int32) (f112 : (Nat → Int32)) (p184 : (Int32 × Int32 × Int32 × (Nat → Int32))) (y174 : Int32) (y175 : Int32) (f176 : (Nat → Int32)) (p369 : (Int32 × Int32 × Int32 × (Nat → Int32))) : Prop := S_DW_divideToPrecision_a_J141 R2 x4 x5 t0_0 t0_1 t1_0 t1_1 t2_0 t3_0 t3_1 t4_0 t5_0 t5_1 t6_0 t7_0 t7_1 t8_0 t9_0 t9_1 t10_0 t10_1 t11_0 j56 lx61 a86 p137 j164 y93 y95 y96 f97 y100 y101 f102 y105 y106 f107 y110 y111 f112 p184 y174 y175 f176 (j164 - 1 : Int64) (y93 ||| (p369.1 : Int32) : Int32) (p369.2.1 : Int32) (p369.2.2.1 : Int32) (p369.2.2.2 : (Nat → Int32))
def S_DW_divideToPrecision_a_c101 (R2 : Int32) (x4 : Int32) (x5 : Int32) (t0_0 : Int64) (t0_1 : Int32) (t1_0 : Int32) (t1_1 : Int32) (t2_0 : (Nat → Int32)) (t3_0 : Int32) (t3_1 : Int32) (t4_0 : (Nat → Int32)) (t5_0 : Int32) (t5_1 : Int32) (t6_0 : (Nat → Int32)) (t7_0 : Int32) (t7_1 : Int32) (t8_0 : (Nat → Int32)) (t9_0 : Int32) (t9_1 : Int32) (t10_0 : Int32) (t10_1 : Int32) (t11_0 : (Nat → Int32)) (j56 : Int64) (lx61 : Int32) (a86 : Int32) (p137 : (Int64 × Int32 × Int32 × Int32 × (Nat → Int32) × Int32 × Int32 × (Nat → Int32) × Int32 × Int32 × (Nat → Int32) × Int32 × Int32 × (Nat → Int32))) (j164 : Int64) (y93 : Int32) (y95 : Int32) (y96 : Int32) (f97 : (Nat → Int32)) (y100 : Int32) (y101 : Int32) (f102 : (Nat → Int32)) (y105 : Int32) (y106 : Int32) (f107 : (Nat → Int32)) (y110 : Int32) (y111 : Int32) (f112 : (Nat → Int32)) (p184 : (Int32 × Int32 × Int32 × (Nat → Int32))) : Prop := if (p184.1 : Int32) ≤ (lx61 + 1 : Int32) then (S_DW_divideToPrecision_a_J141 R2 x4 x5 t0_0 t0_1 t1_0 t1_1 t2_0 t3_0 t3_1 t4_0 t5_0 t5_1 t6_0 t7_0 t7_1 t8_0 t9_0 t9_1 t10_0 t10_1 t11_0 j56 lx61 a86 p137 j164 y93 y95 y96 f97 y100 y101 f102 y105 y106 f107 y110 y111 f112 p184 (p184.2.1 : Int32) (p184.2.2.1 : Int32) (p184.2.2.2 : (Nat → Int32)) j164 y93 y95 y96 f97) else (S_DW_divideToPrecision_a_c124 R2 x4 x5 t0_0 t0_1 t1_0 t1_1 t2_0 t3_0 t3_1 t4_0 t5_0 t5_1 t6_0 t7_0 t7_1 t8_0 t9_0 t9_1 t10_0 t10_1 t11_0 j56 lx61 a86 p137 j164 y93 y95 y96 f97 y100 y101 f102 y105 y106 f107 y110 y111 f112 p184 (p184.2.1 : Int32) (p184.2.2.1 : Int32) (p184.2.2.2 : (Nat → Int32)) ((F_Big_dropFigures (220 : Int32) (1 : Int32) y95 y96 f97) : (Int32 × Int32 × Int32 × (Nat → Int32))))
def S_DW_divideToPrecision_a_c75 (R2 : Int32) (x4 : Int32) (x5 : Int32) (t0_0 : Int64) (t0_1 : Int32) (t1_0 : Int32) (t1_1 : Int32) (t2_0 : (Nat → Int32)) (t3_0 : Int32) (t3_1 : Int32) (t4_0 : (Nat → Int32)) (t5_0 : Int32) (t5_1 : Int32) (t6_0 : (Nat → Int32)) (t7_0 : Int32) (t7_1 : Int32) (t8_0 : (Nat → Int32)) (t9_0 : Int32) (t9_1 : Int32) (t10_0 : Int32) (t10_1 : Int32) (t11_0 : (Nat → Int32)) (j56 : Int64) (lx61 : Int32) (a86 : Int32) (p137 : (Int64 × Int32 × Int32 × Int32 × (Nat → Int32) × Int32 × Int32 × (Nat → Int32) × Int32 × Int32 × (Nat → Int32) × Int32 × Int32 × (Nat → Int32))) : Prop := S_DW_divideToPrecision_a_c101 R2 x4 x5 t0_0 t0_1 t1_0 t1_1 t2_0 t3_0 t3_1 t4_0 t5_0 t5_1 t6_0 t7_0 t7_1 t8_0 t9_0 t9_1 t10_0 t10_1 t11_0 j56 lx61 a86 p137 ((j56 + (a86.toInt64 : Int64) : Int64) - 1 : Int64) (p137.2.1 : Int32) (p137.2.2.1 : Int32) (p137.2.2.2.1 : Int32) (p137.2.2.2.2.1 : (Nat → Int32)) (p137.2.2.2.2.2.1 : Int32) (p137.2.2.2.2.2.2.1 : Int32) (p137.2.2.2.2.2.2.2.1 : (Nat → Int32)) (p137.2.2.2.2.2.2.2.2.1 : Int32) (p137.2.2.2.2.2.2.2.2.2.1 : Int32) (p137.2.2.2.2.2.2.2.2.2.2.1 : (Nat → Int32)) (p137.2.2.2.2.2.2.2.2.2.2.2.1 : Int32) (p137.2.2.2.2.2.2.2.2.2.2.2.2.1 : Int32) (p137.2.2.2.2.2.2.2.2.2.2.2.2.2 : (Nat → Int32)) ((F_Mil_countFigures (220 : Int32) t7_0 t7_1 t8_0 (p137.2.2.1 : Int32) (p137.2.2.2.1 : Int32) (p137.2.2.2.2.1 : (Nat → Int32))) : (Int32 × Int32 × Int32 × (Nat → Int32)))
def S_DW_divideToPrecision_a_J52 (R2 : Int32) (x4 : Int32) (x5 : Int32) (t0_0 : Int64) (t0_1 : Int32) (t1_0 : Int32) (t1_1 : Int32) (t2_0 : (Nat → Int32)) (t3_0 : Int32) (t3_1 : Int32) (t4_0 : (Nat → Int32)) (t5_0 : Int32) (t5_1 : Int32) (t6_0 : (Nat → Int32)) (t7_0 : Int32) (t7_1 : Int32) (t8_0 : (Nat → Int32)) (t9_0 : Int32) (t9_1 : Int32) (t10_0 : Int32) (t10_1 : Int32) (t11_0 : (Nat → Int32)) (j56 : Int64) (lx61 : Int32) : Prop := (True ∧ S_DW_divideRaised_a R2 (((lx61 + 1 : Int32) - t9_1 : Int32) + t9_1 : Int32) t0_0 t0_1 t1_0 t1_1 t2_0 t3_0 t3_1 t4_0 t5_0 t5_1 t6_0 t9_0 t9_1 t10_0 t10_1 t11_0) ∧ (S_DW_divideToPrecision_a_c75 R2 x4 x5 t0_0 t0_1 t1_0 t1_1 t2_0 t3_0 t3_1 t4_0 t5_0 t5_1 t6_0 t7_0 t7_1 t8_0 t9_0 t9_1 t10_0 t10_1 t11_0 j56 lx61 (((lx61 + 1 : Int32) - t9_1 : Int32) + t9_1 : Int32) ((F_DW_divideRaised_a R2 (((lx61 + 1 : Int32) - t9_1 : Int32) + t9_1 : Int32) t0_0 t0_1 t1_0 t1_1 t2_0 t3_0 t3_1 t4_0 t5_0 t5_1 t6_0 t9_0 t9_1 t10_0 t10_1 t11_0) : (Int64 × Int32 × Int32 × Int32 × (Nat → Int32) × Int32 × Int32 × (Nat → Int32) × Int32 × Int32 × (Nat → Int32) × Int32 × Int32 × (Nat → Int32))))
def S_DW_divideToPrecision_a_c30 (R2 : Int32) (x4 : Int32) (x5 : Int32) (t0_0 : Int64) (t0_1 : Int32) (t1_0 : Int32) (t1_1 : Int32) (t2_0 : (Nat → Int32)) (t3_0 : Int32) (t3_1 : Int32) (t4_0 : (Nat → Int32)) (t5_0 : Int32) (t5_1 : Int32) (t6_0 : (Nat → Int32)) (t7_0 : Int32) (t7_1 : Int32) (t8_0 : (Nat → Int32)) (t9_0 : Int32) (t9_1 : Int32) (t10_0 : Int32) (t10_1 : Int32) (t11_0 : (Nat → Int32)) (j56 : Int64) (p405 : (Int32 × Int32)) : Prop := True
def S_DW_divideToPrecision_a (R2 : Int32) (x4 : Int32) (x5 : Int32) (t0_0 : Int64) (t0_1 : Int32) (t1_0 : Int32) (t1_1 : Int32) (t2_0 : (Nat → Int32)) (t3_0 : Int32) (t3_1 : Int32) (t4_0 : (Nat → Int32)) (t5_0 : Int32) (t5_1 : Int32) (t6_0 : (Nat → Int32)) (t7_0 : Int32) (t7_1 : Int32) (t8_0 : (Nat → Int32)) (t9_0 : Int32) (t9_1 : Int32) (t10_0 : Int32) (t10_1 : Int32) (t11_0 : (Nat → Int32)) : Prop := if t10_0 = (0 : Int32) then (S_DW_divideToPrecision_a_c30 R2 x4 x5 t0_0 t0_1 t1_0 t1_1 t2_0 t3_0 t3_1 t4_0 t5_0 t5_1 t6_0 t7_0 t7_1 t8_0 t9_0 t9_1 t10_0 t10_1 t11_0 ((t9_0.toInt64 : Int64) - (t9_0.toInt64 : Int64) : Int64) ((F_Big_clear (220 : Int32) t1_0 t1_1) : (Int32 × Int32))) else (if x4 = (0 : Int32) then (S_DW_divideToPrecision_a_J52 R2 x4 x5 t0_0 t0_1 t1_0 t1_1 t2_0 t3_0 t3_1 t4_0 t5_0 t5_1 t6_0 t7_0 t7_1 t8_0 t9_0 t9_1 t10_0 t10_1 t11_0 ((t9_0.toInt64 : Int64) - (t9_0.toInt64 : Int64) : Int64) 1000) else (S_DW_divideToPrecision_a_J52 R2 x4 x5 t0_0 t0_1 t1_0 t1_1 t2_0 t3_0 t3_1 t4_0 t5_0 t5_1 t6_0 t7_0 t7_1 t8_0 t9_0 t9_1 t10_0 t10_1 t11_0 ((t9_0.toInt64 : Int64) - (t9_0.toInt64 : Int64) : Int64) x4))
set_option maxRecDepth 100000 in
set_option maxHeartbeats 4000000 in
theorem X_DW_divideToPrecision_a (l : Launch) (D : va_G) (g : Nat → ClassId) (q : Nat → Nat) (ws : va_W) (k2 : Nat) (R2 : Int32) (hB2 : q_isDec (nsh g q) g q k2 R2) (zk2 : (10 ≤ k2 ∧ k2 ≤ 31) ∨ 66 ≤ k2) (x4 : Int32) (x5 : Int32) (ne_k2_10 : k2 ≠ 10) (ne_k2_11 : k2 ≠ 11) (ne_k2_9 : k2 ≠ 9) (ne_k2_8 : k2 ≠ 8) (ne_k2_12 : k2 ≠ 12) (ne_k2_13 : k2 ≠ 13) (ne_k2_22 : k2 ≠ 22) (ne_k2_23 : k2 ≠ 23) (ne_k2_21 : k2 ≠ 21) (ne_k2_20 : k2 ≠ 20) (ne_k2_19 : k2 ≠ 19) (ne_k2_18 : k2 ≠ 18) (ne_k2_30 : k2 ≠ 30) (ne_k2_31 : k2 ≠ 31) (ne_k2_29 : k2 ≠ 29) (ne_k2_28 : k2 ≠ 28) (hI : q_I (nsh g q) q ws) (t0_0 : Int64) (t0_1 : Int32) (hT0 : ws[30]? = (some (q 30, .inr (5, [.ref (q 31), .long t0_0, .ref (q 9), .int t0_1])) : Option (Nat × va_E))) (t1_0 : Int32) (t1_1 : Int32) (hT1 : ws[10]? = (some (q 10, .inr (2, [.ref (q 11), .int t1_0, .int t1_1])) : Option (Nat × va_E))) (t2_0 : (Nat → Int32)) (hT2 : ws[11]? = (some (q 11, .inl (g 0, (220 : Int32).toNatClampNeg, .inl t2_0)) : Option (Nat × va_E))) (t3_0 : Int32) (t3_1 : Int32) (hT3 : ws[12]? = (some (q 12, .inr (2, [.ref (q 13), .int t3_0, .int t3_1])) : Option (Nat × va_E))) (t4_0 : (Nat → Int32)) (hT4 : ws[13]? = (some (q 13, .inl (g 0, (220 : Int32).toNatClampNeg, .inl t4_0)) : Option (Nat × va_E))) (t5_0 : Int32) (t5_1 : Int32) (hT5 : ws[22]? = (some (q 22, .inr (2, [.ref (q 23), .int t5_0, .int t5_1])) : Option (Nat × va_E))) (t6_0 : (Nat → Int32)) (hT6 : ws[23]? = (some (q 23, .inl (g 0, (220 : Int32).toNatClampNeg, .inl t6_0)) : Option (Nat × va_E))) (t7_0 : Int32) (t7_1 : Int32) (hT7 : ws[20]? = (some (q 20, .inr (2, [.ref (q 21), .int t7_0, .int t7_1])) : Option (Nat × va_E))) (t8_0 : (Nat → Int32)) (hT8 : ws[21]? = (some (q 21, .inl (g 0, (220 : Int32).toNatClampNeg, .inl t8_0)) : Option (Nat × va_E))) (t9_0 : Int32) (t9_1 : Int32) (hT9 : ws[k2]? = (some (q k2, .inr (3, [.ref (q (k2 + 1)), .int t9_0, .int t9_1])) : Option (Nat × va_E))) (t10_0 : Int32) (t10_1 : Int32) (hT10 : ws[k2 + 1]? = (some (q (k2 + 1), .inr (2, [.ref (q (k2 + 2)), .int t10_0, .int t10_1])) : Option (Nat × va_E))) (t11_0 : (Nat → Int32)) (hT11 : ws[k2 + 2]? = (some (q (k2 + 2), .inl (g 0, R2.toNatClampNeg, .inl t11_0)) : Option (Nat × va_E))) (hS : True ∧ S_DW_divideToPrecision_a R2 x4 x5 t0_0 t0_1 t1_0 t1_1 t2_0 t3_0 t3_1 t4_0 t5_0 t5_1 t6_0 t7_0 t7_1 t8_0 t9_0 t9_1 t10_0 t10_1 t11_0) : q_mI l y_DW_divideToPrecision prog_4_method_12_code 10 (.boolean) 6 0 0 D g [.ref (q 30), .ref (q k2), .ref (q k2), .int x4, .int x5] ws (fun r u => q_I (nsh g q) q u ∧ q_un ws u [10, 11, 12, 13, 20, 21, 22, 23, 30, k2 + 1, k2 + 2] ∧ ∃ (u0_0 : Int64) (u0_1 : Int32) (u1_0 : Int32) (u1_1 : Int32) (u2_0 : (Nat → Int32)) (u3_0 : Int32) (u3_1 : Int32) (u4_0 : (Nat → Int32)) (u5_0 : Int32) (u5_1 : Int32) (u6_0 : (Nat → Int32)) (u7_0 : Int32) (u7_1 : Int32) (u8_0 : (Nat → Int32)) (u10_0 : Int32) (u10_1 : Int32) (u11_0 : (Nat → Int32)), u[30]? = (some (q 30, .inr (5, [.ref (q 31), .long u0_0, .ref (q 9), .int u0_1])) : Option (Nat × va_E)) ∧ u[10]? = (some (q 10, .inr (2, [.ref (q 11), .int u1_0, .int u1_1])) : Option (Nat × va_E)) ∧ u[11]? = (some (q 11, .inl (g 0, (220 : Int32).toNatClampNeg, .inl u2_0)) : Option (Nat × va_E)) ∧ u[12]? = (some (q 12, .inr (2, [.ref (q 13), .int u3_0, .int u3_1])) : Option (Nat × va_E)) ∧ u[13]? = (some (q 13, .inl (g 0, (220 : Int32).toNatClampNeg, .inl u4_0)) : Option (Nat × va_E)) ∧ u[22]? = (some (q 22, .inr (2, [.ref (q 23), .int u5_0, .int u5_1])) : Option (Nat × va_E)) ∧ u[23]? = (some (q 23, .inl (g 0, (220 : Int32).toNatClampNeg, .inl u6_0)) : Option (Nat × va_E)) ∧ u[20]? = (some (q 20, .inr (2, [.ref (q 21), .int u7_0, .int u7_1])) : Option (Nat × va_E)) ∧ u[21]? = (some (q 21, .inl (g 0, (220 : Int32).toNatClampNeg, .inl u8_0)) : Option (Nat × va_E)) ∧ u[k2 + 1]? = (some (q (k2 + 1), .inr (2, [.ref (q (k2 + 2)), .int u10_0, .int u10_1])) : Option (Nat × va_E)) ∧ u[k2 + 2]? = (some (q (k2 + 2), .inl (g 0, R2.toNatClampNeg, .inl u11_0)) : Option (Nat × va_E)) ∧ (0 ≤ r.toInt) ∧ (r.toInt ≤ 1) ∧ (0 ≤ u0_1.toInt) ∧ (u0_1.toInt ≤ 1) ∧ (0 ≤ u1_0.toInt) ∧ (u1_0.toInt ≤ 220) ∧ (0 ≤ u1_1.toInt) ∧ (u1_1.toInt ≤ 1) ∧ (0 ≤ u3_0.toInt) ∧ (u3_0.toInt ≤ 220) ∧ (0 ≤ u3_1.toInt) ∧ (u3_1.toInt ≤ 1) ∧ (0 ≤ u5_0.toInt) ∧ (u5_0.toInt ≤ 220) ∧ (0 ≤ u5_1.toInt) ∧ (u5_1.toInt ≤ 1) ∧ (0 ≤ u7_0.toInt) ∧ (u7_0.toInt ≤ 220) ∧ (0 ≤ u7_1.toInt) ∧ (u7_1.toInt ≤ 1) ∧ (0 ≤ u10_0.toInt) ∧ (u10_0.toInt ≤ 220) ∧ (0 ≤ u10_1.toInt) ∧ (u10_1.toInt ≤ 1) ∧ (u1_0.toInt ≤ t10_0.toInt + 219) ∧ (u1_1.toInt ≤ t10_0.toInt) ∧ (u3_1.toInt ≤ t3_1.toInt) ∧ (u10_0.toInt ≤ t10_0.toInt + 218) ∧ (u10_0.toInt ≤ R2.toInt) ∧ (u10_1.toInt ≤ t10_1.toInt) ∧ (u3_1.toInt ≤ r.toInt) ∧ (r, u0_0, u0_1, u1_0, u1_1, u2_0, u3_0, u3_1, u4_0, u5_0, u5_1, u6_0, u7_0, u7_1, u8_0, u10_0, u10_1, u11_0) = (F_DW_divideToPrecision_a R2 x4 x5 t0_0 t0_1 t1_0 t1_1 t2_0 t3_0 t3_1 t4_0 t5_0 t5_1 t6_0 t7_0 t7_1 t8_0 t9_0 t9_1 t10_0 t10_1 t11_0)) := by
  intro sz
  refine q_into (by decide) (Nat.le_of_ble_eq_true rfl) ?_
  intro p e s m below meth c ls hsz C0 V hl
  have hx := C0.1
  have hb := C0.2.1
  have hfk20 : q_F (0 ≤ R2.toInt ∧ R2.toInt ≤ 220) := hB2.2.2.2
  have btt0_1 := n_w30 hI hT0
  replace btt0_1 : q_F (0 ≤ t0_1.toInt ∧ t0_1.toInt ≤ 1) := btt0_1
  have btt1_1 := (q_bigW hI (n_b10 g q) hT1).2
  clear btt1_1
  obtain ⟨btt3_0, btt3_1⟩ := q_bigW hI (n_b12 g q) hT3
  replace btt3_0 : q_F (0 ≤ t3_0.toInt ∧ t3_0.toInt ≤ 220) := btt3_0
  replace btt3_1 : q_F (0 ≤ t3_1.toInt ∧ t3_1.toInt ≤ 1) := btt3_1
  obtain ⟨btt5_0, btt5_1⟩ := q_bigW hI (n_b22 g q) hT5
  replace btt5_0 : q_F (0 ≤ t5_0.toInt ∧ t5_0.toInt ≤ 220) := btt5_0
  replace btt5_1 : q_F (0 ≤ t5_1.toInt ∧ t5_1.toInt ≤ 1) := btt5_1
  obtain ⟨btt7_0, btt7_1⟩ := q_bigW hI (n_b20 g q) hT7
  replace btt7_0 : q_F (0 ≤ t7_0.toInt ∧ t7_0.toInt ≤ 220) := btt7_0
  replace btt7_1 : q_F (0 ≤ t7_1.toInt ∧ t7_1.toInt ≤ 1) := btt7_1
  have btt9_1 := (n_deW hI hB2 hT9).2
  clear btt9_1
  obtain ⟨btt10_0, btt10_1⟩ := q_bigW hI hB2.2 hT10
  replace btt10_0 : q_F (0 ≤ t10_0.toInt ∧ t10_0.toInt ≤ R2.toInt) := btt10_0
  replace btt10_1 : q_F (0 ≤ t10_1.toInt ∧ t10_1.toInt ≤ 1) := btt10_1
  have hF : q_un ws ws [10, 11, 12, 13, 20, 21, 22, 23, 30, k2 + 1, k2 + 2] := q_u0
  have hl : lv_has ls 10 [(0, .ref (q 30)), (1, .ref (q k2)), (2, .ref (q k2)), (3, .int x4), (4, .int x5)] := hl
  refine lv_aload_n hx hb d_4_12_0 rfl (lv_at hl 1 rfl) ?_
  refine q_get (ci := 3) (j := 1) (v := .int t9_0) C0 V i_Dec rfl rfl hT9 (by decide) w_176 rfl d_4_12_1 ?_
  refine lv_i2l hx hb d_4_12_4 rfl ?_
  obtain ⟨j50, e51⟩ := q_nm (t9_0.toInt64 : Int64)
  refine q_tl (v := j50) e51 ?_
  refine lv_aload_n hx hb d_4_12_5 rfl (lv_at hl 2 rfl) ?_
  refine q_get (ci := 3) (j := 1) (v := .int t9_0) C0 V i_Dec rfl rfl hT9 (by decide) w_176 rfl d_4_12_6 ?_
  refine lv_i2l hx hb d_4_12_9 rfl ?_
  obtain ⟨j53, e54⟩ := q_nm (t9_0.toInt64 : Int64)
  refine q_tl (v := j53) e54 ?_
  refine lv_lsub hx hb d_4_12_10 ?_
  obtain ⟨j56, e57⟩ := q_nm (j50 - j53 : Int64)
  refine q_tl (v := j56) e57 ?_
  refine lv_lstore (lv' := [(5, .long j56), (0, .ref (q 30)), (1, .ref (q k2)), (2, .ref (q k2)), (3, .int x4), (4, .int x5)]) hx hb d_4_12_11 hl (by decide) rfl (fun ls hl => ?_)
  refine lv_aload_n hx hb d_4_12_13 rfl (lv_at hl 2 rfl) ?_
  refine q_get (ci := 3) (j := 0) (v := .ref (q (k2 + 1))) C0 V i_Dec rfl rfl hT9 (by decide) w_171 rfl d_4_12_14 ?_
  refine q_get (ci := 2) (j := 1) (v := .int t10_0) C0 V i_Big rfl rfl hT10 (by decide) w_90 rfl d_4_12_17 ?_
  refine lv_if_ne (tgt := 41) hx hb d_4_12_20 (by decide) (fun c59 => ?_) (fun c59 => ?_)
  ·
    have b60 : q_F (t10_0.toInt ≠ 0) := (q_neI c59)
    refine lv_iload_n hx hb d_4_12_41 rfl (lv_at hl 4 rfl) ?_
    refine q_join (X := Int32) (fun z H locs ls _ => q_F (x4.toInt ≤ z.toInt) ∧ q_F (z.toInt ≤ x4.toInt + 1000) ∧ q_Wd D g (va_A ws sz) s ws H locs ∧ lv_has ls 10 [(5, .long j56), (0, .ref (q 30)), (1, .ref (q k2)), (2, .ref (q k2)), (3, .int x4), (4, .int x5)] ∧ F_DW_divideToPrecision_a_J52 R2 x4 x5 t0_0 t0_1 t1_0 t1_1 t2_0 t3_0 t3_1 t4_0 t5_0 t5_1 t6_0 t7_0 t7_1 t8_0 t9_0 t9_1 t10_0 t10_1 t11_0 j56 z = (F_DW_divideToPrecision_a R2 x4 x5 t0_0 t0_1 t1_0 t1_1 t2_0 t3_0 t3_1 t4_0 t5_0 t5_1 t6_0 t7_0 t7_1 t8_0 t9_0 t9_1 t10_0 t10_1 t11_0) ∧ True ∧ S_DW_divideToPrecision_a_J52 R2 x4 x5 t0_0 t0_1 t1_0 t1_1 t2_0 t3_0 t3_1 t4_0 t5_0 t5_1 t6_0 t7_0 t7_1 t8_0 t9_0 t9_1 t10_0 t10_1 t11_0 j56 z) (fun z => [.int z]) 52 0 0 ?_ ?_
    ·
      rintro lx61 H locs ls _ hZ9
      replace hZ9 := hZ9.2.2
      obtain ⟨V, hZ9⟩ := hZ9
      obtain ⟨hl, hZ9⟩ := hZ9
      obtain ⟨hR77, hS78⟩ := hZ9
      replace hl : lv_has ls 10 [(5, .long j56), (0, .ref (q 30)), (1, .ref (q k2)), (2, .ref (q k2)), (3, .int x4), (4, .int x5)] := hl
      refine lv_istore (lv' := [(7, .int lx61), (5, .long j56), (0, .ref (q 30)), (1, .ref (q k2)), (2, .ref (q k2)), (3, .int x4), (4, .int x5)]) hx hb d_4_12_52 hl (by decide) rfl (fun ls hl => ?_)
      refine lv_iload hx hb d_4_12_54 (lv_at hl 0 rfl) ?_
      refine lv_iconst (v := 1) hx hb d_4_12_56 (by decide) ?_
      refine lv_iadd hx hb d_4_12_57 ?_
      obtain ⟨a82, e83⟩ := q_nm (lx61 + 1 : Int32)
      refine q_ti (v := a82) e83 ?_
      refine lv_aload_n hx hb d_4_12_58 rfl (lv_at hl 3 rfl) ?_
      refine q_get (ci := 3) (j := 2) (v := .int t9_1) C0 V i_Dec rfl rfl hT9 (by decide) w_180 rfl d_4_12_59 ?_
      refine lv_isub hx hb d_4_12_62 ?_
      obtain ⟨a84, e85⟩ := q_nm (a82 - t9_1 : Int32)
      refine q_ti (v := a84) e85 ?_
      refine lv_aload_n hx hb d_4_12_63 rfl (lv_at hl 4 rfl) ?_
      refine q_get (ci := 3) (j := 2) (v := .int t9_1) C0 V i_Dec rfl rfl hT9 (by decide) w_180 rfl d_4_12_64 ?_
      refine lv_iadd hx hb d_4_12_67 ?_
      obtain ⟨a86, e87⟩ := q_nm (a84 + t9_1 : Int32)
      refine q_ti (v := a86) e87 ?_
      refine lv_istore (lv' := [(8, .int a86), (7, .int lx61), (5, .long j56), (0, .ref (q 30)), (1, .ref (q k2)), (2, .ref (q k2)), (3, .int x4), (4, .int x5)]) hx hb d_4_12_68 hl (by decide) rfl (fun ls hl => ?_)
      refine lv_aload_n hx hb d_4_12_70 rfl (lv_at hl 3 rfl) ?_
      refine lv_aload_n hx hb d_4_12_71 rfl (lv_at hl 4 rfl) ?_
      refine lv_aload_n hx hb d_4_12_72 rfl (lv_at hl 5 rfl) ?_
      refine lv_iload hx hb d_4_12_73 (lv_at hl 0 rfl) ?_
      have ob88 : True ∧ S_DW_divideRaised_a R2 a86 t0_0 t0_1 t1_0 t1_1 t2_0 t3_0 t3_1 t4_0 t5_0 t5_1 t6_0 t9_0 t9_1 t10_0 t10_1 t11_0 := (by rw [← e87, ← e85, ← e83]; have h := hS78; rw [S_DW_divideToPrecision_a_J52.eq_1] at h; with_reducible exact h.2.1)
      refine q_gov V (q_runV (As := [.ref (q k2), .ref (q k2), .int a86]) (rest := []) (d := 5) (mc := 0) (ms := 0) (ci := 5) C0 V rfl LV_DW_138 (X_DW_divideRaised_a l D g q ws k2 R2 hB2 zk2 a86 (by have z := ne_k2_10; omega) (by have z := ne_k2_11; omega) (by have z := ne_k2_9; omega) (by have z := ne_k2_8; omega) (by have z := ne_k2_12; omega) (by have z := ne_k2_13; omega) (by have z := ne_k2_22; omega) (by have z := ne_k2_23; omega) (by have z := ne_k2_21; omega) (by have z := ne_k2_20; omega) (by have z := ne_k2_30; omega) (by have z := ne_k2_31; omega) (by have z := ne_k2_29; omega) (by have z := ne_k2_28; omega) hI t0_0 t0_1 hT0 t1_0 t1_1 hT1 t2_0 hT2 t3_0 t3_1 hT3 t4_0 hT4 t5_0 t5_1 hT5 t6_0 hT6 t9_0 t9_1 hT9 t10_0 t10_1 hT10 t11_0 hT11 ob88 _) rfl rfl hT0 rfl hl.1 rfl (Nat.le_of_ble_eq_true rfl) ⟨by decide, by decide⟩ ⟨Nat.le_of_ble_eq_true rfl, Nat.le_of_ble_eq_true rfl⟩ d_4_12_75) (fun u89 H locs hp90 V => ?_)
      obtain ⟨hI, hZ9⟩ := hp90
      obtain ⟨hu136, hZ9⟩ := hZ9
      obtain ⟨y92, hZ9⟩ := hZ9
      obtain ⟨y93, hZ9⟩ := hZ9
      obtain ⟨y95, hZ9⟩ := hZ9
      obtain ⟨y96, hZ9⟩ := hZ9
      obtain ⟨f97, hZ9⟩ := hZ9
      obtain ⟨y100, hZ9⟩ := hZ9
      obtain ⟨y101, hZ9⟩ := hZ9
      obtain ⟨f102, hZ9⟩ := hZ9
      obtain ⟨y105, hZ9⟩ := hZ9
      obtain ⟨y106, hZ9⟩ := hZ9
      obtain ⟨f107, hZ9⟩ := hZ9
      obtain ⟨y110, hZ9⟩ := hZ9
      obtain ⟨y111, hZ9⟩ := hZ9
      obtain ⟨f112, hZ9⟩ := hZ9
      obtain ⟨hO91, hZ9⟩ := hZ9
      obtain ⟨hO94, hZ9⟩ := hZ9
      obtain ⟨hA98, hZ9⟩ := hZ9
      obtain ⟨hO99, hZ9⟩ := hZ9
      obtain ⟨hA103, hZ9⟩ := hZ9
      obtain ⟨hO104, hZ9⟩ := hZ9
      obtain ⟨hA108, hZ9⟩ := hZ9
      obtain ⟨hO109, hZ9⟩ := hZ9
      obtain ⟨hA113, hZ9⟩ := hZ9
      obtain ⟨b114, hZ9⟩ := hZ9
      obtain ⟨b115, hZ9⟩ := hZ9
      replace hZ9 := hZ9.2.2.2.2
      obtain ⟨b120, hZ9⟩ := hZ9
      obtain ⟨b121, hZ9⟩ := hZ9
      obtain ⟨b122, hZ9⟩ := hZ9
      obtain ⟨b123, hZ9⟩ := hZ9
      obtain ⟨b124, hZ9⟩ := hZ9
      obtain ⟨b125, hZ9⟩ := hZ9
      obtain ⟨b126, hZ9⟩ := hZ9
      obtain ⟨b127, hZ9⟩ := hZ9
      obtain ⟨b128, hZ9⟩ := hZ9
      obtain ⟨b129, hZ9⟩ := hZ9
      replace hZ9 := hZ9.2.2.2
      obtain ⟨b133, hZ9⟩ := hZ9
      obtain ⟨b134, hE135⟩ := hZ9
      replace hO91 : u89[30]? = (some (q 30, .inr (5, [.ref (q 31), .long y92, .ref (q 9), .int y93])) : Option (Nat × va_E)) := hO91
      replace hO94 : u89[10]? = (some (q 10, .inr (2, [.ref (q 11), .int y95, .int y96])) : Option (Nat × va_E)) := hO94
      replace hA98 : u89[11]? = (some (q 11, .inl (g 0, (220 : Int32).toNatClampNeg, .inl f97)) : Option (Nat × va_E)) := hA98
      replace hO99 : u89[12]? = (some (q 12, .inr (2, [.ref (q 13), .int y100, .int y101])) : Option (Nat × va_E)) := hO99
      replace hA103 : u89[13]? = (some (q 13, .inl (g 0, (220 : Int32).toNatClampNeg, .inl f102)) : Option (Nat × va_E)) := hA103
      replace hO104 : u89[22]? = (some (q 22, .inr (2, [.ref (q 23), .int y105, .int y106])) : Option (Nat × va_E)) := hO104
      replace hA108 : u89[23]? = (some (q 23, .inl (g 0, (220 : Int32).toNatClampNeg, .inl f107)) : Option (Nat × va_E)) := hA108
      replace hO109 : u89[k2 + 1]? = (some (q (k2 + 1), .inr (2, [.ref (q (k2 + 2)), .int y110, .int y111])) : Option (Nat × va_E)) := hO109
      replace hA113 : u89[k2 + 2]? = (some (q (k2 + 2), .inl (g 0, R2.toNatClampNeg, .inl f112)) : Option (Nat × va_E)) := hA113
      obtain ⟨p137, e138⟩ : ∃ z, z = (F_DW_divideRaised_a R2 a86 t0_0 t0_1 t1_0 t1_1 t2_0 t3_0 t3_1 t4_0 t5_0 t5_1 t6_0 t9_0 t9_1 t10_0 t10_1 t11_0) := ⟨_, rfl⟩
      have e139 : y92 = p137.1 := congrArg (fun z => z.1) (hE135.trans e138.symm)
      have e140 : y93 = p137.2.1 := congrArg (fun z => z.2.1) (hE135.trans e138.symm)
      have e141 : y95 = p137.2.2.1 := congrArg (fun z => z.2.2.1) (hE135.trans e138.symm)
      have e142 : y96 = p137.2.2.2.1 := congrArg (fun z => z.2.2.2.1) (hE135.trans e138.symm)
      have e143 : f97 = p137.2.2.2.2.1 := congrArg (fun z => z.2.2.2.2.1) (hE135.trans e138.symm)
      have e144 : y100 = p137.2.2.2.2.2.1 := congrArg (fun z => z.2.2.2.2.2.1) (hE135.trans e138.symm)
      have e145 : y101 = p137.2.2.2.2.2.2.1 := congrArg (fun z => z.2.2.2.2.2.2.1) (hE135.trans e138.symm)
      have e146 : f102 = p137.2.2.2.2.2.2.2.1 := congrArg (fun z => z.2.2.2.2.2.2.2.1) (hE135.trans e138.symm)
      have e147 : y105 = p137.2.2.2.2.2.2.2.2.1 := congrArg (fun z => z.2.2.2.2.2.2.2.2.1) (hE135.trans e138.symm)
      have e148 : y106 = p137.2.2.2.2.2.2.2.2.2.1 := congrArg (fun z => z.2.2.2.2.2.2.2.2.2.1) (hE135.trans e138.symm)
      have e149 : f107 = p137.2.2.2.2.2.2.2.2.2.2.1 := congrArg (fun z => z.2.2.2.2.2.2.2.2.2.2.1) (hE135.trans e138.symm)
      have e150 : y110 = p137.2.2.2.2.2.2.2.2.2.2.2.1 := congrArg (fun z => z.2.2.2.2.2.2.2.2.2.2.2.1) (hE135.trans e138.symm)
      have e151 : y111 = p137.2.2.2.2.2.2.2.2.2.2.2.2.1 := congrArg (fun z => z.2.2.2.2.2.2.2.2.2.2.2.2.1) (hE135.trans e138.symm)
      have e152 : f112 = p137.2.2.2.2.2.2.2.2.2.2.2.2.2 := congrArg (fun z => z.2.2.2.2.2.2.2.2.2.2.2.2.2) (hE135.trans e138.symm)
      replace b114 : q_F (0 ≤ y101.toInt) := b114
      replace b115 : q_F (y101.toInt ≤ 0) := b115
      replace b120 : q_F (y110.toInt ≤ t10_0.toInt + 218) := b120
      replace b121 : q_F (y110.toInt ≤ R2.toInt) := b121
      replace b122 : q_F (y111.toInt ≤ t10_1.toInt) := b122
      replace b123 : q_F (y101.toInt ≤ y93.toInt) := b123
      replace b124 : q_F (y93.toInt ≤ y101.toInt + 1) := b124
      replace b125 : q_F (y95.toInt ≤ y100.toInt) := b125
      replace b126 : q_F (y101.toInt ≤ y95.toInt) := b126
      replace b127 : q_F (y101.toInt ≤ y96.toInt) := b127
      replace b128 : q_F (y96.toInt ≤ y101.toInt) := b128
      replace b129 : q_F (y100.toInt ≤ y101.toInt + 220) := b129
      replace b133 : q_F (y101.toInt ≤ y110.toInt) := b133
      replace b134 : q_F (y101.toInt ≤ y111.toInt) := b134
      replace hT7 := (hu136 _ (by have z0 := zk2; simp only [List.mem_cons, List.not_mem_nil, or_false, not_or]; omega)).trans hT7
      replace hT8 := (hu136 _ (by have z0 := zk2; simp only [List.mem_cons, List.not_mem_nil, or_false, not_or]; omega)).trans hT8
      replace hT9 := (hu136 _ (by have z0 := zk2; simp only [List.mem_cons, List.not_mem_nil, or_false, not_or]; omega)).trans hT9
      replace hF := q_uc hF hu136 (by first | exact (q_sk (q_mi 0 rfl) (q_sk (q_mi 1 rfl) (q_sk (q_mi 2 rfl) (q_sk (q_mi 3 rfl) (q_sk (q_mi 6 rfl) (q_sk (q_mi 7 rfl) (q_sk (q_mi 8 rfl) (q_sk (q_mi 9 rfl) (q_sk (q_mi 10 rfl) q_s0))))))))) | simp)
      have hR153 := (show F_DW_divideToPrecision_a_c75 R2 x4 x5 t0_0 t0_1 t1_0 t1_1 t2_0 t3_0 t3_1 t4_0 t5_0 t5_1 t6_0 t7_0 t7_1 t8_0 t9_0 t9_1 t10_0 t10_1 t11_0 j56 lx61 a86 p137 = (F_DW_divideToPrecision_a R2 x4 x5 t0_0 t0_1 t1_0 t1_1 t2_0 t3_0 t3_1 t4_0 t5_0 t5_1 t6_0 t7_0 t7_1 t8_0 t9_0 t9_1 t10_0 t10_1 t11_0) from Eq.trans (by rw [e138, ← e87, ← e85, ← e83, F_DW_divideToPrecision_a_J52.eq_1]) hR77)
      have hS154 := (show True ∧ S_DW_divideToPrecision_a_c75 R2 x4 x5 t0_0 t0_1 t1_0 t1_1 t2_0 t3_0 t3_1 t4_0 t5_0 t5_1 t6_0 t7_0 t7_1 t8_0 t9_0 t9_1 t10_0 t10_1 t11_0 j56 lx61 a86 p137 from (by rw [e138, ← e87, ← e85, ← e83]; have h := hS78; rw [S_DW_divideToPrecision_a_J52.eq_1] at h; replace h := q_s2 h; with_reducible exact h))
      refine lv_aload_n hx hb d_4_12_78 rfl (lv_at hl 3 rfl) ?_
      refine lv_lload hx hb d_4_12_79 (lv_at hl 2 rfl) ?_
      refine lv_iload hx hb d_4_12_81 (lv_at hl 0 rfl) ?_
      refine lv_i2l hx hb d_4_12_83 rfl ?_
      obtain ⟨j158, e159⟩ := q_nm (a86.toInt64 : Int64)
      refine q_tl (v := j158) e159 ?_
      refine lv_ladd hx hb d_4_12_84 ?_
      obtain ⟨j161, e162⟩ := q_nm (j56 + j158 : Int64)
      refine q_tl (v := j161) e162 ?_
      refine lv_lconst (v := 1) hx hb d_4_12_85 (by decide) ?_
      refine lv_lsub hx hb d_4_12_86 ?_
      obtain ⟨j164, e165⟩ := q_nm (j161 - 1 : Int64)
      refine q_tl (v := j164) e165 ?_
      refine q_put (ci := 5) (j := 1) (v := .long j164) (ty := .long) C0 V i_DW o_DW n_DW rfl rfl hO91 (by decide) w_212 rfl rfl rfl rfl (Nat.le_of_ble_eq_true rfl) d_4_12_87 (fun H locs w167 hu168 hO91 V => ?_)
      replace hO91 : w167[30]? = (some (q 30, .inr (5, [.ref (q 31), .long j164, .ref (q 9), .int y93])) : Option (Nat × va_E)) := hO91
      replace hI := n_p30 hI hu168 hO91 ⟨(by have t1 : 0 ≤ y101.toInt := b114; have t2 : y101.toInt ≤ y93.toInt := b123; omega), (by have t1 : y101.toInt ≤ 0 := b115; have t2 : y93.toInt ≤ y101.toInt + 1 := b124; omega)⟩
      replace hO94 := (hu168 _ (by decide)).trans hO94
      replace hA98 := (hu168 _ (by decide)).trans hA98
      replace hO99 := (hu168 _ (by decide)).trans hO99
      replace hA103 := (hu168 _ (by decide)).trans hA103
      replace hO104 := (hu168 _ (by decide)).trans hO104
      replace hA108 := (hu168 _ (by decide)).trans hA108
      replace hT7 := (hu168 _ (by decide)).trans hT7
      replace hT8 := (hu168 _ (by decide)).trans hT8
      replace hT9 := (hu168 _ (by have z := ne_k2_30; omega)).trans hT9
      replace hO109 := (hu168 _ (by have z := ne_k2_29; omega)).trans hO109
      replace hA113 := (hu168 _ (by have z := ne_k2_28; omega)).trans hA113
      replace hF := q_us hF hu168 (by simp)
      refine lv_aload_n hx hb d_4_12_90 rfl (lv_at hl 3 rfl) ?_
      refine q_get (ci := 5) (j := 2) (v := .ref (q 9)) C0 V i_DW rfl rfl hO91 (by decide) w_214 rfl d_4_12_91 ?_
      refine lv_aload_n hx hb d_4_12_94 rfl (lv_at hl 3 rfl) ?_
      refine q_get (ci := 5) (j := 2) (v := .ref (q 9)) C0 V i_DW rfl rfl hO91 (by decide) w_214 rfl d_4_12_95 ?_
      have hO169 := n_o9 hI
      refine q_get (ci := 4) (j := 0) (v := .ref (q 10)) C0 V i_Mil rfl rfl hO169 (by decide) w_111 rfl d_4_12_98 ?_
      refine q_goi V (q_runV (As := [.ref (q 10)]) (rest := []) (d := 4) (mc := 0) (ms := 0) (ci := 4) C0 V rfl LV_DW_34 (X_Mil_countFigures l D g q w167 10 220 (n_b10 g q) (by decide)  (by decide) (by decide) (by decide) hI t7_0 t7_1 hT7 t8_0 hT8 y95 y96 hO94 f97 hA98  _) rfl rfl hO169 rfl hl.1 rfl (Nat.le_of_ble_eq_true rfl) ⟨by decide, by decide⟩ ⟨Nat.le_of_ble_eq_true rfl, Nat.le_of_ble_eq_true rfl⟩ d_4_12_101) (fun a172 u170 H locs hp171 V => ?_)
      obtain ⟨hI, hZ9⟩ := hp171
      obtain ⟨hu183, hZ9⟩ := hZ9
      obtain ⟨y174, hZ9⟩ := hZ9
      obtain ⟨y175, hZ9⟩ := hZ9
      obtain ⟨f176, hZ9⟩ := hZ9
      obtain ⟨hO173, hZ9⟩ := hZ9
      obtain ⟨hA177, hZ9⟩ := hZ9
      replace hZ9 := hZ9.2.2.2
      obtain ⟨-, hE182⟩ := hZ9
      replace hO173 : u170[20]? = (some (q 20, .inr (2, [.ref (q 21), .int y174, .int y175])) : Option (Nat × va_E)) := hO173
      replace hA177 : u170[21]? = (some (q 21, .inl (g 0, (220 : Int32).toNatClampNeg, .inl f176)) : Option (Nat × va_E)) := hA177
      obtain ⟨p184, e185⟩ : ∃ z, z = (F_Mil_countFigures (220 : Int32) t7_0 t7_1 t8_0 y95 y96 f97) := ⟨_, rfl⟩
      have e186 : a172 = p184.1 := congrArg (fun z => z.1) (hE182.trans e185.symm)
      have e187 : y174 = p184.2.1 := congrArg (fun z => z.2.1) (hE182.trans e185.symm)
      have e188 : y175 = p184.2.2.1 := congrArg (fun z => z.2.2.1) (hE182.trans e185.symm)
      have e189 : f176 = p184.2.2.2 := congrArg (fun z => z.2.2.2) (hE182.trans e185.symm)
      replace hO91 := (hu183 _ (by decide)).trans hO91
      replace hO94 := (hu183 _ (by decide)).trans hO94
      replace hA98 := (hu183 _ (by decide)).trans hA98
      replace hO99 := (hu183 _ (by decide)).trans hO99
      replace hA103 := (hu183 _ (by decide)).trans hA103
      replace hO104 := (hu183 _ (by decide)).trans hO104
      replace hA108 := (hu183 _ (by decide)).trans hA108
      replace hT9 := (hu183 _ (by have z0 := zk2; simp only [List.mem_cons, List.not_mem_nil, or_false, not_or]; omega)).trans hT9
      replace hO109 := (hu183 _ (by have z0 := zk2; simp only [List.mem_cons, List.not_mem_nil, or_false, not_or]; omega)).trans hO109
      replace hA113 := (hu183 _ (by have z0 := zk2; simp only [List.mem_cons, List.not_mem_nil, or_false, not_or]; omega)).trans hA113
      replace hO169 := (hu183 _ (by decide)).trans hO169
      replace hF := q_uc hF hu183 (by first | exact (q_sk (q_mi 4 rfl) (q_sk (q_mi 5 rfl) q_s0)) | simp)
      have hR190 := (show F_DW_divideToPrecision_a_c101 R2 x4 x5 t0_0 t0_1 t1_0 t1_1 t2_0 t3_0 t3_1 t4_0 t5_0 t5_1 t6_0 t7_0 t7_1 t8_0 t9_0 t9_1 t10_0 t10_1 t11_0 j56 lx61 a86 p137 j164 y93 y95 y96 f97 y100 y101 f102 y105 y106 f107 y110 y111 f112 p184 = (F_DW_divideToPrecision_a R2 x4 x5 t0_0 t0_1 t1_0 t1_1 t2_0 t3_0 t3_1 t4_0 t5_0 t5_1 t6_0 t7_0 t7_1 t8_0 t9_0 t9_1 t10_0 t10_1 t11_0) from Eq.trans (by rw [e185, ← e165, ← e162, ← e159, e152, e151, e150, e149, e148, e147, e146, e145, e144, e143, e142, e141, e140, F_DW_divideToPrecision_a_c75.eq_1]) hR153)
      have hS191 := (show True ∧ S_DW_divideToPrecision_a_c101 R2 x4 x5 t0_0 t0_1 t1_0 t1_1 t2_0 t3_0 t3_1 t4_0 t5_0 t5_1 t6_0 t7_0 t7_1 t8_0 t9_0 t9_1 t10_0 t10_1 t11_0 j56 lx61 a86 p137 j164 y93 y95 y96 f97 y100 y101 f102 y105 y106 f107 y110 y111 f112 p184 from (by rw [e185, ← e165, ← e162, ← e159, e152, e151, e150, e149, e148, e147, e146, e145, e144, e143, e142, e141, e140]; have h := hS154; rw [S_DW_divideToPrecision_a_c75.eq_1] at h; with_reducible exact h))
      refine lv_iload hx hb d_4_12_104 (lv_at hl 1 rfl) ?_
      refine lv_iconst (v := 1) hx hb d_4_12_106 (by decide) ?_
      refine lv_iadd hx hb d_4_12_107 ?_
      obtain ⟨a195, e196⟩ := q_nm (lx61 + 1 : Int32)
      refine q_ti (v := a195) e196 ?_
      refine q_join (X := Int64 × Int32 × Int32 × Int32 × (Nat → Int32)) (fun z H locs ls w221 => q_F (z.2.2.1.toInt ≤ y95.toInt) ∧ q_F (z.2.2.2.1.toInt ≤ z.2.1.toInt) ∧ q_F (z.2.1.toInt ≤ z.2.2.2.1.toInt + 1) ∧ q_F (0 ≤ z.2.1.toInt + z.2.2.2.1.toInt) ∧ q_F (z.2.1.toInt + z.2.2.2.1.toInt ≤ 1) ∧ q_F (0 ≤ z.2.2.1.toInt + z.2.2.2.1.toInt) ∧ q_Wd D g (va_A ws sz) s w221 H locs ∧ lv_has ls 10 [(7, .int lx61), (5, .long j56), (0, .ref (q 30)), (1, .ref (q k2)), (2, .ref (q k2)), (3, .int x4), (4, .int x5)] ∧ q_I (nsh g q) q w221 ∧ q_un ws w221 [10, 11, 12, 13, 20, 21, 22, 23, 30, k2 + 1, k2 + 2] ∧ w221[30]? = (some (q 30, .inr (5, [.ref (q 31), .long z.1, .ref (q 9), .int z.2.1])) : Option (Nat × va_E)) ∧ w221[10]? = (some (q 10, .inr (2, [.ref (q 11), .int z.2.2.1, .int z.2.2.2.1])) : Option (Nat × va_E)) ∧ w221[11]? = (some (q 11, .inl (g 0, (220 : Int32).toNatClampNeg, .inl z.2.2.2.2)) : Option (Nat × va_E)) ∧ w221[12]? = (some (q 12, .inr (2, [.ref (q 13), .int y100, .int y101])) : Option (Nat × va_E)) ∧ w221[13]? = (some (q 13, .inl (g 0, (220 : Int32).toNatClampNeg, .inl f102)) : Option (Nat × va_E)) ∧ w221[22]? = (some (q 22, .inr (2, [.ref (q 23), .int y105, .int y106])) : Option (Nat × va_E)) ∧ w221[23]? = (some (q 23, .inl (g 0, (220 : Int32).toNatClampNeg, .inl f107)) : Option (Nat × va_E)) ∧ w221[20]? = (some (q 20, .inr (2, [.ref (q 21), .int y174, .int y175])) : Option (Nat × va_E)) ∧ w221[21]? = (some (q 21, .inl (g 0, (220 : Int32).toNatClampNeg, .inl f176)) : Option (Nat × va_E)) ∧ w221[k2]? = (some (q k2, .inr (3, [.ref (q (k2 + 1)), .int t9_0, .int t9_1])) : Option (Nat × va_E)) ∧ w221[k2 + 1]? = (some (q (k2 + 1), .inr (2, [.ref (q (k2 + 2)), .int y110, .int y111])) : Option (Nat × va_E)) ∧ w221[k2 + 2]? = (some (q (k2 + 2), .inl (g 0, R2.toNatClampNeg, .inl f112)) : Option (Nat × va_E)) ∧ F_DW_divideToPrecision_a_J141 R2 x4 x5 t0_0 t0_1 t1_0 t1_1 t2_0 t3_0 t3_1 t4_0 t5_0 t5_1 t6_0 t7_0 t7_1 t8_0 t9_0 t9_1 t10_0 t10_1 t11_0 j56 lx61 a86 p137 j164 y93 y95 y96 f97 y100 y101 f102 y105 y106 f107 y110 y111 f112 p184 y174 y175 f176 z.1 z.2.1 z.2.2.1 z.2.2.2.1 z.2.2.2.2 = (F_DW_divideToPrecision_a R2 x4 x5 t0_0 t0_1 t1_0 t1_1 t2_0 t3_0 t3_1 t4_0 t5_0 t5_1 t6_0 t7_0 t7_1 t8_0 t9_0 t9_1 t10_0 t10_1 t11_0) ∧ True ∧ S_DW_divideToPrecision_a_J141 R2 x4 x5 t0_0 t0_1 t1_0 t1_1 t2_0 t3_0 t3_1 t4_0 t5_0 t5_1 t6_0 t7_0 t7_1 t8_0 t9_0 t9_1 t10_0 t10_1 t11_0 j56 lx61 a86 p137 j164 y93 y95 y96 f97 y100 y101 f102 y105 y106 f107 y110 y111 f112 p184 y174 y175 f176 z.1 z.2.1 z.2.2.1 z.2.2.2.1 z.2.2.2.2) (fun z => []) 141 0 0 ?_ ?_
      ·
        rintro ⟨lx197, lx198, lx199, lx200, lx201⟩ H locs ls w221 ⟨i215, i216, i217, i218, i219, i220, V, hl, hI, hF, hO202, hO203, hA204, hO205, hA206, hO207, hA208, hO209, hA210, hO211, hO212, hA213, hR222, hS223⟩
        clear i215
        replace i216 : q_F (lx200.toInt ≤ lx198.toInt) := i216
        replace i217 : q_F (lx198.toInt ≤ lx200.toInt + 1) := i217
        replace i218 : q_F (0 ≤ lx198.toInt + lx200.toInt) := i218
        replace i219 : q_F (lx198.toInt + lx200.toInt ≤ 1) := i219
        clear i220
        replace hl : lv_has ls 10 [(7, .int lx61), (5, .long j56), (0, .ref (q 30)), (1, .ref (q k2)), (2, .ref (q k2)), (3, .int x4), (4, .int x5)] := hl
        replace hO202 : w221[30]? = (some (q 30, .inr (5, [.ref (q 31), .long lx197, .ref (q 9), .int lx198])) : Option (Nat × va_E)) := hO202
        replace hO203 : w221[10]? = (some (q 10, .inr (2, [.ref (q 11), .int lx199, .int lx200])) : Option (Nat × va_E)) := hO203
        replace hA204 : w221[11]? = (some (q 11, .inl (g 0, (220 : Int32).toNatClampNeg, .inl lx201)) : Option (Nat × va_E)) := hA204
        replace hO205 : w221[12]? = (some (q 12, .inr (2, [.ref (q 13), .int y100, .int y101])) : Option (Nat × va_E)) := hO205
        replace hA206 : w221[13]? = (some (q 13, .inl (g 0, (220 : Int32).toNatClampNeg, .inl f102)) : Option (Nat × va_E)) := hA206
        replace hO207 : w221[22]? = (some (q 22, .inr (2, [.ref (q 23), .int y105, .int y106])) : Option (Nat × va_E)) := hO207
        replace hA208 : w221[23]? = (some (q 23, .inl (g 0, (220 : Int32).toNatClampNeg, .inl f107)) : Option (Nat × va_E)) := hA208
        replace hO209 : w221[20]? = (some (q 20, .inr (2, [.ref (q 21), .int y174, .int y175])) : Option (Nat × va_E)) := hO209
        replace hA210 : w221[21]? = (some (q 21, .inl (g 0, (220 : Int32).toNatClampNeg, .inl f176)) : Option (Nat × va_E)) := hA210
        replace hO211 : w221[k2]? = (some (q k2, .inr (3, [.ref (q (k2 + 1)), .int t9_0, .int t9_1])) : Option (Nat × va_E)) := hO211
        replace hO212 : w221[k2 + 1]? = (some (q (k2 + 1), .inr (2, [.ref (q (k2 + 2)), .int y110, .int y111])) : Option (Nat × va_E)) := hO212
        replace hA213 : w221[k2 + 2]? = (some (q (k2 + 2), .inl (g 0, R2.toNatClampNeg, .inl f112)) : Option (Nat × va_E)) := hA213
        refine lv_aload_n hx hb d_4_12_141 rfl (lv_at hl 3 rfl) ?_
        refine q_get (ci := 3) (j := 0) (v := .ref (q (k2 + 1))) C0 V i_Dec rfl rfl hO211 (by decide) w_171 rfl d_4_12_142 ?_
        refine q_get (ci := 2) (j := 2) (v := .int y111) C0 V i_Big rfl rfl hO212 (by decide) w_97 rfl d_4_12_145 ?_
        refine lv_aload_n hx hb d_4_12_148 rfl (lv_at hl 4 rfl) ?_
        refine q_get (ci := 3) (j := 0) (v := .ref (q (k2 + 1))) C0 V i_Dec rfl rfl hO211 (by decide) w_171 rfl d_4_12_149 ?_
        refine q_get (ci := 2) (j := 2) (v := .int y111) C0 V i_Big rfl rfl hO212 (by decide) w_97 rfl d_4_12_152 ?_
        refine lv_icmp_eq (tgt := 162) hx hb d_4_12_155 (by decide) (fun c227 => ?_) (fun c227 => absurd (show y111.toInt ≠ y111.toInt from q_neI c227) (by omega))
        refine lv_iconst (v := 0) hx hb d_4_12_162 (by decide) ?_
        refine lv_istore (lv' := [(9, .int 0), (7, .int lx61), (5, .long j56), (0, .ref (q 30)), (1, .ref (q k2)), (2, .ref (q k2)), (3, .int x4), (4, .int x5)]) hx hb d_4_12_163 hl (by decide) rfl (fun ls hl => ?_)
        refine lv_aload_n hx hb d_4_12_165 rfl (lv_at hl 3 rfl) ?_
        refine lv_iload hx hb d_4_12_166 (lv_at hl 0 rfl) ?_
        refine lv_iload hx hb d_4_12_168 (lv_at hl 1 rfl) ?_
        refine lv_lload hx hb d_4_12_170 (lv_at hl 2 rfl) ?_
        refine lv_iload_n hx hb d_4_12_172 rfl (lv_at hl 6 rfl) ?_
        refine lv_if_ne (tgt := 181) hx hb d_4_12_173 (by decide) (fun c228 => ?_) (fun c228 => ?_)
        ·
          refine lv_iload hx hb d_4_12_181 (lv_at hl 7 rfl) ?_
          refine q_goi V (q_runV (As := [.int 0, .int lx61, .long j56, .int x5]) (rest := []) (d := 5) (mc := 0) (ms := 0) (ci := 5) C0 V rfl LV_DW_153 (X_DW_shorten l D g q w221  0 lx61 j56 x5 hI lx197 lx198 hO202 lx199 lx200 hO203 lx201 hA204 y105 y106 hO207 f107 hA208 y174 y175 hO209 f176 hA210 ⟨(by have y0 : (0 : Int32).toInt = 0 := rfl; omega), (by have y0 : (0 : Int32).toInt = 0 := rfl; omega)⟩ _) rfl rfl hO202 rfl hl.1 rfl (Nat.le_of_ble_eq_true rfl) ⟨by decide, by decide⟩ ⟨Nat.le_of_ble_eq_true rfl, Nat.le_of_ble_eq_true rfl⟩ d_4_12_183) (fun a232 u230 H locs hp231 V => ?_)
          obtain ⟨hI, hZ9⟩ := hp231
          obtain ⟨hu269, hZ9⟩ := hZ9
          obtain ⟨y234, hZ9⟩ := hZ9
          obtain ⟨y235, hZ9⟩ := hZ9
          obtain ⟨y237, hZ9⟩ := hZ9
          obtain ⟨y238, hZ9⟩ := hZ9
          obtain ⟨f239, hZ9⟩ := hZ9
          obtain ⟨y242, hZ9⟩ := hZ9
          obtain ⟨y243, hZ9⟩ := hZ9
          obtain ⟨f244, hZ9⟩ := hZ9
          obtain ⟨y247, hZ9⟩ := hZ9
          obtain ⟨y248, hZ9⟩ := hZ9
          obtain ⟨f249, hZ9⟩ := hZ9
          obtain ⟨hO233, hZ9⟩ := hZ9
          obtain ⟨hO236, hZ9⟩ := hZ9
          obtain ⟨hA240, hZ9⟩ := hZ9
          obtain ⟨hO241, hZ9⟩ := hZ9
          obtain ⟨hA245, hZ9⟩ := hZ9
          obtain ⟨hO246, hZ9⟩ := hZ9
          obtain ⟨hA250, hZ9⟩ := hZ9
          obtain ⟨b251, hZ9⟩ := hZ9
          obtain ⟨b252, hZ9⟩ := hZ9
          obtain ⟨b253, hZ9⟩ := hZ9
          obtain ⟨b254, hZ9⟩ := hZ9
          obtain ⟨b255, hZ9⟩ := hZ9
          obtain ⟨b256, hZ9⟩ := hZ9
          obtain ⟨b257, hZ9⟩ := hZ9
          obtain ⟨b258, hZ9⟩ := hZ9
          obtain ⟨b259, hZ9⟩ := hZ9
          obtain ⟨b260, hZ9⟩ := hZ9
          obtain ⟨b261, hZ9⟩ := hZ9
          obtain ⟨b262, hZ9⟩ := hZ9
          obtain ⟨b263, hZ9⟩ := hZ9
          obtain ⟨b264, hZ9⟩ := hZ9
          obtain ⟨b265, hZ9⟩ := hZ9
          obtain ⟨b266, hZ9⟩ := hZ9
          obtain ⟨-, hE268⟩ := hZ9
          replace hO233 : u230[30]? = (some (q 30, .inr (5, [.ref (q 31), .long y234, .ref (q 9), .int y235])) : Option (Nat × va_E)) := hO233
          replace hO236 : u230[10]? = (some (q 10, .inr (2, [.ref (q 11), .int y237, .int y238])) : Option (Nat × va_E)) := hO236
          replace hA240 : u230[11]? = (some (q 11, .inl (g 0, (220 : Int32).toNatClampNeg, .inl f239)) : Option (Nat × va_E)) := hA240
          replace hO241 : u230[22]? = (some (q 22, .inr (2, [.ref (q 23), .int y242, .int y243])) : Option (Nat × va_E)) := hO241
          replace hA245 : u230[23]? = (some (q 23, .inl (g 0, (220 : Int32).toNatClampNeg, .inl f244)) : Option (Nat × va_E)) := hA245
          replace hO246 : u230[20]? = (some (q 20, .inr (2, [.ref (q 21), .int y247, .int y248])) : Option (Nat × va_E)) := hO246
          replace hA250 : u230[21]? = (some (q 21, .inl (g 0, (220 : Int32).toNatClampNeg, .inl f249)) : Option (Nat × va_E)) := hA250
          obtain ⟨p270, e271⟩ : ∃ z, z = (F_DW_shorten (0 : Int32) lx61 j56 x5 lx197 lx198 lx199 lx200 lx201 y105 y106 f107 y174 y175 f176) := ⟨_, rfl⟩
          have e272 : a232 = p270.1 := congrArg (fun z => z.1) (hE268.trans e271.symm)
          have e273 : y234 = p270.2.1 := congrArg (fun z => z.2.1) (hE268.trans e271.symm)
          have e274 : y235 = p270.2.2.1 := congrArg (fun z => z.2.2.1) (hE268.trans e271.symm)
          have e275 : y237 = p270.2.2.2.1 := congrArg (fun z => z.2.2.2.1) (hE268.trans e271.symm)
          have e276 : y238 = p270.2.2.2.2.1 := congrArg (fun z => z.2.2.2.2.1) (hE268.trans e271.symm)
          have e277 : f239 = p270.2.2.2.2.2.1 := congrArg (fun z => z.2.2.2.2.2.1) (hE268.trans e271.symm)
          have e278 : y242 = p270.2.2.2.2.2.2.1 := congrArg (fun z => z.2.2.2.2.2.2.1) (hE268.trans e271.symm)
          have e279 : y243 = p270.2.2.2.2.2.2.2.1 := congrArg (fun z => z.2.2.2.2.2.2.2.1) (hE268.trans e271.symm)
          have e280 : f244 = p270.2.2.2.2.2.2.2.2.1 := congrArg (fun z => z.2.2.2.2.2.2.2.2.1) (hE268.trans e271.symm)
          have e281 : y247 = p270.2.2.2.2.2.2.2.2.2.1 := congrArg (fun z => z.2.2.2.2.2.2.2.2.2.1) (hE268.trans e271.symm)
          have e282 : y248 = p270.2.2.2.2.2.2.2.2.2.2.1 := congrArg (fun z => z.2.2.2.2.2.2.2.2.2.2.1) (hE268.trans e271.symm)
          have e283 : f249 = p270.2.2.2.2.2.2.2.2.2.2.2 := congrArg (fun z => z.2.2.2.2.2.2.2.2.2.2.2) (hE268.trans e271.symm)
          replace b251 : q_F (0 ≤ a232.toInt) := b251
          replace b252 : q_F (a232.toInt ≤ 1) := b252
          replace b253 : q_F (0 ≤ y237.toInt) := b253
          replace b254 : q_F (y237.toInt ≤ 220) := b254
          replace b255 : q_F (0 ≤ y238.toInt) := b255
          replace b256 : q_F (y238.toInt ≤ 1) := b256
          replace b257 : q_F (0 ≤ y242.toInt) := b257
          replace b258 : q_F (y242.toInt ≤ 220) := b258
          replace b259 : q_F (0 ≤ y243.toInt) := b259
          replace b260 : q_F (y243.toInt ≤ 1) := b260
          replace b261 : q_F (0 ≤ y247.toInt) := b261
          replace b262 : q_F (y247.toInt ≤ 220) := b262
          replace b263 : q_F (0 ≤ y248.toInt) := b263
          replace b264 : q_F (y248.toInt ≤ 1) := b264
          replace b265 : q_F (lx198.toInt ≤ y235.toInt) := b265
          replace b266 : q_F (y235.toInt ≤ lx198.toInt) := b266
          replace hO205 := (hu269 _ (by decide)).trans hO205
          replace hA206 := (hu269 _ (by decide)).trans hA206
          replace hO212 := (hu269 _ (by have z0 := zk2; simp only [List.mem_cons, List.not_mem_nil, or_false, not_or]; omega)).trans hO212
          replace hA213 := (hu269 _ (by have z0 := zk2; simp only [List.mem_cons, List.not_mem_nil, or_false, not_or]; omega)).trans hA213
          replace hF := q_uc hF hu269 (by first | exact (q_sk (q_mi 0 rfl) (q_sk (q_mi 1 rfl) (q_sk (q_mi 4 rfl) (q_sk (q_mi 5 rfl) (q_sk (q_mi 6 rfl) (q_sk (q_mi 7 rfl) (q_sk (q_mi 8 rfl) q_s0))))))) | simp)
          have hR284 := (show F_DW_divideToPrecision_a_c183 R2 x4 x5 t0_0 t0_1 t1_0 t1_1 t2_0 t3_0 t3_1 t4_0 t5_0 t5_1 t6_0 t7_0 t7_1 t8_0 t9_0 t9_1 t10_0 t10_1 t11_0 j56 lx61 a86 p137 j164 y93 y95 y96 f97 y100 y101 f102 y105 y106 f107 y110 y111 f112 p184 y174 y175 f176 lx197 lx198 lx199 lx200 lx201 p270 = (F_DW_divideToPrecision_a R2 x4 x5 t0_0 t0_1 t1_0 t1_1 t2_0 t3_0 t3_1 t4_0 t5_0 t5_1 t6_0 t7_0 t7_1 t8_0 t9_0 t9_1 t10_0 t10_1 t11_0) from Eq.trans (by rw [e271, F_DW_divideToPrecision_a_J141.eq_1, if_neg c228]) hR222)
          have hS285 := (show True ∧ S_DW_divideToPrecision_a_c183 R2 x4 x5 t0_0 t0_1 t1_0 t1_1 t2_0 t3_0 t3_1 t4_0 t5_0 t5_1 t6_0 t7_0 t7_1 t8_0 t9_0 t9_1 t10_0 t10_1 t11_0 j56 lx61 a86 p137 j164 y93 y95 y96 f97 y100 y101 f102 y105 y106 f107 y110 y111 f112 p184 y174 y175 f176 lx197 lx198 lx199 lx200 lx201 p270 from (by rw [e271]; have h := hS223; rw [S_DW_divideToPrecision_a_J141.eq_1] at h; rw [if_neg c228] at h; with_reducible exact h))
          exact q_retz C0 V (q_nz01 (q_Ile (x := 0) (y := a232.toInt) (by decide) rfl (by first | with_reducible exact q_fe b251 | (have t1 : 0 ≤ a232.toInt := b251; omega))) (q_Ile (x := a232.toInt) (y := 1) rfl (by decide) (by first | with_reducible exact q_fe b252 | (have t1 : a232.toInt ≤ 1 := b252; omega)))) (⟨hI, hF, y234, y235, y237, y238, f239, y100, y101, f102, y242, y243, f244, y247, y248, f249, y110, y111, f112, hO233, hO236, hA240, hO205, hA206, hO241, hA245, hO246, hA250, hO212, hA213, (show 0 ≤ a232.toInt from (by first | with_reducible exact q_fe b251 | (have t1 : 0 ≤ a232.toInt := b251; omega))), (show a232.toInt ≤ 1 from (by first | with_reducible exact q_fe b252 | (have t1 : a232.toInt ≤ 1 := b252; omega))), (show 0 ≤ y235.toInt from (by have t1 : lx200.toInt ≤ lx198.toInt := i216; have t2 : 0 ≤ lx198.toInt + lx200.toInt := i218; have t3 : lx198.toInt ≤ y235.toInt := b265; omega)), (show y235.toInt ≤ 1 from (by have t1 : lx198.toInt ≤ lx200.toInt + 1 := i217; have t2 : lx198.toInt + lx200.toInt ≤ 1 := i219; have t3 : y235.toInt ≤ lx198.toInt := b266; omega)), (show 0 ≤ y237.toInt from (by first | with_reducible exact q_fe b253 | (have t1 : 0 ≤ y237.toInt := b253; omega))), (show y237.toInt ≤ 220 from (by first | with_reducible exact q_fe b254 | (have t1 : y237.toInt ≤ 220 := b254; omega))), (show 0 ≤ y238.toInt from (by first | with_reducible exact q_fe b255 | (have t1 : 0 ≤ y238.toInt := b255; omega))), (show y238.toInt ≤ 1 from (by first | with_reducible exact q_fe b256 | (have t1 : y238.toInt ≤ 1 := b256; omega))), (show 0 ≤ y100.toInt from (by have t1 : 0 ≤ y101.toInt := b114; have t2 : y95.toInt ≤ y100.toInt := b125; have t3 : y101.toInt ≤ y95.toInt := b126; omega)), (show y100.toInt ≤ 220 from (by have t1 : y101.toInt ≤ 0 := b115; have t2 : y100.toInt ≤ y101.toInt + 220 := b129; omega)), (show 0 ≤ y101.toInt from (by first | with_reducible exact q_fe b114 | (have t1 : 0 ≤ y101.toInt := b114; omega))), (show y101.toInt ≤ 1 from (by first | with_reducible exact q_fe b115 | (have t1 : y101.toInt ≤ 0 := b115; omega))), (show 0 ≤ y242.toInt from (by first | with_reducible exact q_fe b257 | (have t1 : 0 ≤ y242.toInt := b257; omega))), (show y242.toInt ≤ 220 from (by first | with_reducible exact q_fe b258 | (have t1 : y242.toInt ≤ 220 := b258; omega))), (show 0 ≤ y243.toInt from (by first | with_reducible exact q_fe b259 | (have t1 : 0 ≤ y243.toInt := b259; omega))), (show y243.toInt ≤ 1 from (by first | with_reducible exact q_fe b260 | (have t1 : y243.toInt ≤ 1 := b260; omega))), (show 0 ≤ y247.toInt from (by first | with_reducible exact q_fe b261 | (have t1 : 0 ≤ y247.toInt := b261; omega))), (show y247.toInt ≤ 220 from (by first | with_reducible exact q_fe b262 | (have t1 : y247.toInt ≤ 220 := b262; omega))), (show 0 ≤ y248.toInt from (by first | with_reducible exact q_fe b263 | (have t1 : 0 ≤ y248.toInt := b263; omega))), (show y248.toInt ≤ 1 from (by first | with_reducible exact q_fe b264 | (have t1 : y248.toInt ≤ 1 := b264; omega))), (show 0 ≤ y110.toInt from (by have t1 : 0 ≤ y101.toInt := b114; have t2 : y101.toInt ≤ y110.toInt := b133; omega)), (show y110.toInt ≤ 220 from (by have t1 : 0 ≤ R2.toInt ∧ R2.toInt ≤ 220 := hfk20; have t2 : y110.toInt ≤ R2.toInt := b121; omega)), (show 0 ≤ y111.toInt from (by have t1 : 0 ≤ y101.toInt := b114; have t2 : y101.toInt ≤ y111.toInt := b134; omega)), (show y111.toInt ≤ 1 from (by have t1 : 0 ≤ t10_1.toInt ∧ t10_1.toInt ≤ 1 := btt10_1; have t2 : y111.toInt ≤ t10_1.toInt := b122; omega)), (show y237.toInt ≤ t10_0.toInt + 219 from (by have t1 : 0 ≤ t10_0.toInt ∧ t10_0.toInt ≤ R2.toInt := btt10_0; have t2 : t10_0.toInt ≠ 0 := b60; have t3 : y237.toInt ≤ 220 := b254; omega)), (show y238.toInt ≤ t10_0.toInt from (by have t1 : 0 ≤ t10_0.toInt ∧ t10_0.toInt ≤ R2.toInt := btt10_0; have t2 : t10_0.toInt ≠ 0 := b60; have t3 : y238.toInt ≤ 1 := b256; omega)), (show y101.toInt ≤ t3_1.toInt from (by have t1 : 0 ≤ t3_1.toInt ∧ t3_1.toInt ≤ 1 := btt3_1; have t2 : y101.toInt ≤ 0 := b115; omega)), (show y110.toInt ≤ t10_0.toInt + 218 from (by first | with_reducible exact q_fe b120 | (have t1 : y110.toInt ≤ t10_0.toInt + 218 := b120; omega))), (show y110.toInt ≤ R2.toInt from (by first | with_reducible exact q_fe b121 | (have t1 : y110.toInt ≤ R2.toInt := b121; omega))), (show y111.toInt ≤ t10_1.toInt from (by first | with_reducible exact q_fe b122 | (have t1 : y111.toInt ≤ t10_1.toInt := b122; omega))), (show y101.toInt ≤ a232.toInt from (by have t1 : y101.toInt ≤ 0 := b115; have t2 : 0 ≤ a232.toInt := b251; omega)), (show (a232, y234, y235, y237, y238, f239, y100, y101, f102, y242, y243, f244, y247, y248, f249, y110, y111, f112) = (F_DW_divideToPrecision_a R2 x4 x5 t0_0 t0_1 t1_0 t1_1 t2_0 t3_0 t3_1 t4_0 t5_0 t5_1 t6_0 t7_0 t7_1 t8_0 t9_0 t9_1 t10_0 t10_1 t11_0) from Eq.trans (by rw [e283, e282, e281, e280, e279, e278, e277, e276, e275, e274, e273, e272, F_DW_divideToPrecision_a_c183.eq_1]) hR284)⟩) d_4_12_186
        ·
          refine lv_bipush (v := 7) hx hb d_4_12_176 (by decide) ?_
          refine lv_goto (tgt := 183) hx hb d_4_12_178 (by decide) ?_
          refine q_goi V (q_runV (As := [.int 0, .int lx61, .long j56, .int 7]) (rest := []) (d := 5) (mc := 0) (ms := 0) (ci := 5) C0 V rfl LV_DW_153 (X_DW_shorten l D g q w221  0 lx61 j56 7 hI lx197 lx198 hO202 lx199 lx200 hO203 lx201 hA204 y105 y106 hO207 f107 hA208 y174 y175 hO209 f176 hA210 ⟨(by have y0 : (0 : Int32).toInt = 0 := rfl; have y1 : (7 : Int32).toInt = 7 := rfl; omega), (by have y0 : (0 : Int32).toInt = 0 := rfl; have y1 : (7 : Int32).toInt = 7 := rfl; omega)⟩ _) rfl rfl hO202 rfl hl.1 rfl (Nat.le_of_ble_eq_true rfl) ⟨by decide, by decide⟩ ⟨Nat.le_of_ble_eq_true rfl, Nat.le_of_ble_eq_true rfl⟩ d_4_12_183) (fun a292 u290 H locs hp291 V => ?_)
          obtain ⟨hI, hZ9⟩ := hp291
          obtain ⟨hu329, hZ9⟩ := hZ9
          obtain ⟨y294, hZ9⟩ := hZ9
          obtain ⟨y295, hZ9⟩ := hZ9
          obtain ⟨y297, hZ9⟩ := hZ9
          obtain ⟨y298, hZ9⟩ := hZ9
          obtain ⟨f299, hZ9⟩ := hZ9
          obtain ⟨y302, hZ9⟩ := hZ9
          obtain ⟨y303, hZ9⟩ := hZ9
          obtain ⟨f304, hZ9⟩ := hZ9
          obtain ⟨y307, hZ9⟩ := hZ9
          obtain ⟨y308, hZ9⟩ := hZ9
          obtain ⟨f309, hZ9⟩ := hZ9
          obtain ⟨hO293, hZ9⟩ := hZ9
          obtain ⟨hO296, hZ9⟩ := hZ9
          obtain ⟨hA300, hZ9⟩ := hZ9
          obtain ⟨hO301, hZ9⟩ := hZ9
          obtain ⟨hA305, hZ9⟩ := hZ9
          obtain ⟨hO306, hZ9⟩ := hZ9
          obtain ⟨hA310, hZ9⟩ := hZ9
          obtain ⟨b311, hZ9⟩ := hZ9
          obtain ⟨b312, hZ9⟩ := hZ9
          obtain ⟨b313, hZ9⟩ := hZ9
          obtain ⟨b314, hZ9⟩ := hZ9
          obtain ⟨b315, hZ9⟩ := hZ9
          obtain ⟨b316, hZ9⟩ := hZ9
          obtain ⟨b317, hZ9⟩ := hZ9
          obtain ⟨b318, hZ9⟩ := hZ9
          obtain ⟨b319, hZ9⟩ := hZ9
          obtain ⟨b320, hZ9⟩ := hZ9
          obtain ⟨b321, hZ9⟩ := hZ9
          obtain ⟨b322, hZ9⟩ := hZ9
          obtain ⟨b323, hZ9⟩ := hZ9
          obtain ⟨b324, hZ9⟩ := hZ9
          obtain ⟨b325, hZ9⟩ := hZ9
          obtain ⟨b326, hZ9⟩ := hZ9
          obtain ⟨-, hE328⟩ := hZ9
          replace hO293 : u290[30]? = (some (q 30, .inr (5, [.ref (q 31), .long y294, .ref (q 9), .int y295])) : Option (Nat × va_E)) := hO293
          replace hO296 : u290[10]? = (some (q 10, .inr (2, [.ref (q 11), .int y297, .int y298])) : Option (Nat × va_E)) := hO296
          replace hA300 : u290[11]? = (some (q 11, .inl (g 0, (220 : Int32).toNatClampNeg, .inl f299)) : Option (Nat × va_E)) := hA300
          replace hO301 : u290[22]? = (some (q 22, .inr (2, [.ref (q 23), .int y302, .int y303])) : Option (Nat × va_E)) := hO301
          replace hA305 : u290[23]? = (some (q 23, .inl (g 0, (220 : Int32).toNatClampNeg, .inl f304)) : Option (Nat × va_E)) := hA305
          replace hO306 : u290[20]? = (some (q 20, .inr (2, [.ref (q 21), .int y307, .int y308])) : Option (Nat × va_E)) := hO306
          replace hA310 : u290[21]? = (some (q 21, .inl (g 0, (220 : Int32).toNatClampNeg, .inl f309)) : Option (Nat × va_E)) := hA310
          obtain ⟨p330, e331⟩ : ∃ z, z = (F_DW_shorten (0 : Int32) lx61 j56 (7 : Int32) lx197 lx198 lx199 lx200 lx201 y105 y106 f107 y174 y175 f176) := ⟨_, rfl⟩
          have e332 : a292 = p330.1 := congrArg (fun z => z.1) (hE328.trans e331.symm)
          have e333 : y294 = p330.2.1 := congrArg (fun z => z.2.1) (hE328.trans e331.symm)
          have e334 : y295 = p330.2.2.1 := congrArg (fun z => z.2.2.1) (hE328.trans e331.symm)
          have e335 : y297 = p330.2.2.2.1 := congrArg (fun z => z.2.2.2.1) (hE328.trans e331.symm)
          have e336 : y298 = p330.2.2.2.2.1 := congrArg (fun z => z.2.2.2.2.1) (hE328.trans e331.symm)
          have e337 : f299 = p330.2.2.2.2.2.1 := congrArg (fun z => z.2.2.2.2.2.1) (hE328.trans e331.symm)
          have e338 : y302 = p330.2.2.2.2.2.2.1 := congrArg (fun z => z.2.2.2.2.2.2.1) (hE328.trans e331.symm)
          have e339 : y303 = p330.2.2.2.2.2.2.2.1 := congrArg (fun z => z.2.2.2.2.2.2.2.1) (hE328.trans e331.symm)
          have e340 : f304 = p330.2.2.2.2.2.2.2.2.1 := congrArg (fun z => z.2.2.2.2.2.2.2.2.1) (hE328.trans e331.symm)
          have e341 : y307 = p330.2.2.2.2.2.2.2.2.2.1 := congrArg (fun z => z.2.2.2.2.2.2.2.2.2.1) (hE328.trans e331.symm)
          have e342 : y308 = p330.2.2.2.2.2.2.2.2.2.2.1 := congrArg (fun z => z.2.2.2.2.2.2.2.2.2.2.1) (hE328.trans e331.symm)
          have e343 : f309 = p330.2.2.2.2.2.2.2.2.2.2.2 := congrArg (fun z => z.2.2.2.2.2.2.2.2.2.2.2) (hE328.trans e331.symm)
          replace b311 : q_F (0 ≤ a292.toInt) := b311
          replace b312 : q_F (a292.toInt ≤ 1) := b312
          replace b313 : q_F (0 ≤ y297.toInt) := b313
          replace b314 : q_F (y297.toInt ≤ 220) := b314
          replace b315 : q_F (0 ≤ y298.toInt) := b315
          replace b316 : q_F (y298.toInt ≤ 1) := b316
          replace b317 : q_F (0 ≤ y302.toInt) := b317
          replace b318 : q_F (y302.toInt ≤ 220) := b318
          replace b319 : q_F (0 ≤ y303.toInt) := b319
          replace b320 : q_F (y303.toInt ≤ 1) := b320
          replace b321 : q_F (0 ≤ y307.toInt) := b321
          replace b322 : q_F (y307.toInt ≤ 220) := b322
          replace b323 : q_F (0 ≤ y308.toInt) := b323
          replace b324 : q_F (y308.toInt ≤ 1) := b324
          replace b325 : q_F (lx198.toInt ≤ y295.toInt) := b325
          replace b326 : q_F (y295.toInt ≤ lx198.toInt) := b326
          replace hO205 := (hu329 _ (by decide)).trans hO205
          replace hA206 := (hu329 _ (by decide)).trans hA206
          replace hO212 := (hu329 _ (by have z0 := zk2; simp only [List.mem_cons, List.not_mem_nil, or_false, not_or]; omega)).trans hO212
          replace hA213 := (hu329 _ (by have z0 := zk2; simp only [List.mem_cons, List.not_mem_nil, or_false, not_or]; omega)).trans hA213
          replace hF := q_uc hF hu329 (by first | exact (q_sk (q_mi 0 rfl) (q_sk (q_mi 1 rfl) (q_sk (q_mi 4 rfl) (q_sk (q_mi 5 rfl) (q_sk (q_mi 6 rfl) (q_sk (q_mi 7 rfl) (q_sk (q_mi 8 rfl) q_s0))))))) | simp)
          have hR344 := (show F_DW_divideToPrecision_a_c183_6 R2 x4 x5 t0_0 t0_1 t1_0 t1_1 t2_0 t3_0 t3_1 t4_0 t5_0 t5_1 t6_0 t7_0 t7_1 t8_0 t9_0 t9_1 t10_0 t10_1 t11_0 j56 lx61 a86 p137 j164 y93 y95 y96 f97 y100 y101 f102 y105 y106 f107 y110 y111 f112 p184 y174 y175 f176 lx197 lx198 lx199 lx200 lx201 p330 = (F_DW_divideToPrecision_a R2 x4 x5 t0_0 t0_1 t1_0 t1_1 t2_0 t3_0 t3_1 t4_0 t5_0 t5_1 t6_0 t7_0 t7_1 t8_0 t9_0 t9_1 t10_0 t10_1 t11_0) from Eq.trans (by rw [e331, F_DW_divideToPrecision_a_J141.eq_1, if_pos c228]) hR222)
          have hS345 := (show True ∧ S_DW_divideToPrecision_a_c183_6 R2 x4 x5 t0_0 t0_1 t1_0 t1_1 t2_0 t3_0 t3_1 t4_0 t5_0 t5_1 t6_0 t7_0 t7_1 t8_0 t9_0 t9_1 t10_0 t10_1 t11_0 j56 lx61 a86 p137 j164 y93 y95 y96 f97 y100 y101 f102 y105 y106 f107 y110 y111 f112 p184 y174 y175 f176 lx197 lx198 lx199 lx200 lx201 p330 from (by rw [e331]; have h := hS223; rw [S_DW_divideToPrecision_a_J141.eq_1] at h; rw [if_pos c228] at h; with_reducible exact h))
          exact q_retz C0 V (q_nz01 (q_Ile (x := 0) (y := a292.toInt) (by decide) rfl (by first | with_reducible exact q_fe b311 | (have t1 : 0 ≤ a292.toInt := b311; omega))) (q_Ile (x := a292.toInt) (y := 1) rfl (by decide) (by first | with_reducible exact q_fe b312 | (have t1 : a292.toInt ≤ 1 := b312; omega)))) (⟨hI, hF, y294, y295, y297, y298, f299, y100, y101, f102, y302, y303, f304, y307, y308, f309, y110, y111, f112, hO293, hO296, hA300, hO205, hA206, hO301, hA305, hO306, hA310, hO212, hA213, (show 0 ≤ a292.toInt from (by first | with_reducible exact q_fe b311 | (have t1 : 0 ≤ a292.toInt := b311; omega))), (show a292.toInt ≤ 1 from (by first | with_reducible exact q_fe b312 | (have t1 : a292.toInt ≤ 1 := b312; omega))), (show 0 ≤ y295.toInt from (by have t1 : lx200.toInt ≤ lx198.toInt := i216; have t2 : 0 ≤ lx198.toInt + lx200.toInt := i218; have t3 : lx198.toInt ≤ y295.toInt := b325; omega)), (show y295.toInt ≤ 1 from (by have t1 : lx198.toInt ≤ lx200.toInt + 1 := i217; have t2 : lx198.toInt + lx200.toInt ≤ 1 := i219; have t3 : y295.toInt ≤ lx198.toInt := b326; omega)), (show 0 ≤ y297.toInt from (by first | with_reducible exact q_fe b313 | (have t1 : 0 ≤ y297.toInt := b313; omega))), (show y297.toInt ≤ 220 from (by first | with_reducible exact q_fe b314 | (have t1 : y297.toInt ≤ 220 := b314; omega))), (show 0 ≤ y298.toInt from (by first | with_reducible exact q_fe b315 | (have t1 : 0 ≤ y298.toInt := b315; omega))), (show y298.toInt ≤ 1 from (by first | with_reducible exact q_fe b316 | (have t1 : y298.toInt ≤ 1 := b316; omega))), (show 0 ≤ y100.toInt from (by have t1 : 0 ≤ y101.toInt := b114; have t2 : y95.toInt ≤ y100.toInt := b125; have t3 : y101.toInt ≤ y95.toInt := b126; omega)), (show y100.toInt ≤ 220 from (by have t1 : y101.toInt ≤ 0 := b115; have t2 : y100.toInt ≤ y101.toInt + 220 := b129; omega)), (show 0 ≤ y101.toInt from (by first | with_reducible exact q_fe b114 | (have t1 : 0 ≤ y101.toInt := b114; omega))), (show y101.toInt ≤ 1 from (by first | with_reducible exact q_fe b115 | (have t1 : y101.toInt ≤ 0 := b115; omega))), (show 0 ≤ y302.toInt from (by first | with_reducible exact q_fe b317 | (have t1 : 0 ≤ y302.toInt := b317; omega))), (show y302.toInt ≤ 220 from (by first | with_reducible exact q_fe b318 | (have t1 : y302.toInt ≤ 220 := b318; omega))), (show 0 ≤ y303.toInt from (by first | with_reducible exact q_fe b319 | (have t1 : 0 ≤ y303.toInt := b319; omega))), (show y303.toInt ≤ 1 from (by first | with_reducible exact q_fe b320 | (have t1 : y303.toInt ≤ 1 := b320; omega))), (show 0 ≤ y307.toInt from (by first | with_reducible exact q_fe b321 | (have t1 : 0 ≤ y307.toInt := b321; omega))), (show y307.toInt ≤ 220 from (by first | with_reducible exact q_fe b322 | (have t1 : y307.toInt ≤ 220 := b322; omega))), (show 0 ≤ y308.toInt from (by first | with_reducible exact q_fe b323 | (have t1 : 0 ≤ y308.toInt := b323; omega))), (show y308.toInt ≤ 1 from (by first | with_reducible exact q_fe b324 | (have t1 : y308.toInt ≤ 1 := b324; omega))), (show 0 ≤ y110.toInt from (by have t1 : 0 ≤ y101.toInt := b114; have t2 : y101.toInt ≤ y110.toInt := b133; omega)), (show y110.toInt ≤ 220 from (by have t1 : 0 ≤ R2.toInt ∧ R2.toInt ≤ 220 := hfk20; have t2 : y110.toInt ≤ R2.toInt := b121; omega)), (show 0 ≤ y111.toInt from (by have t1 : 0 ≤ y101.toInt := b114; have t2 : y101.toInt ≤ y111.toInt := b134; omega)), (show y111.toInt ≤ 1 from (by have t1 : 0 ≤ t10_1.toInt ∧ t10_1.toInt ≤ 1 := btt10_1; have t2 : y111.toInt ≤ t10_1.toInt := b122; omega)), (show y297.toInt ≤ t10_0.toInt + 219 from (by have t1 : 0 ≤ t10_0.toInt ∧ t10_0.toInt ≤ R2.toInt := btt10_0; have t2 : t10_0.toInt ≠ 0 := b60; have t3 : y297.toInt ≤ 220 := b314; omega)), (show y298.toInt ≤ t10_0.toInt from (by have t1 : 0 ≤ t10_0.toInt ∧ t10_0.toInt ≤ R2.toInt := btt10_0; have t2 : t10_0.toInt ≠ 0 := b60; have t3 : y298.toInt ≤ 1 := b316; omega)), (show y101.toInt ≤ t3_1.toInt from (by have t1 : 0 ≤ t3_1.toInt ∧ t3_1.toInt ≤ 1 := btt3_1; have t2 : y101.toInt ≤ 0 := b115; omega)), (show y110.toInt ≤ t10_0.toInt + 218 from (by first | with_reducible exact q_fe b120 | (have t1 : y110.toInt ≤ t10_0.toInt + 218 := b120; omega))), (show y110.toInt ≤ R2.toInt from (by first | with_reducible exact q_fe b121 | (have t1 : y110.toInt ≤ R2.toInt := b121; omega))), (show y111.toInt ≤ t10_1.toInt from (by first | with_reducible exact q_fe b122 | (have t1 : y111.toInt ≤ t10_1.toInt := b122; omega))), (show y101.toInt ≤ a292.toInt from (by have t1 : y101.toInt ≤ 0 := b115; have t2 : 0 ≤ a292.toInt := b311; omega)), (show (a292, y294, y295, y297, y298, f299, y100, y101, f102, y302, y303, f304, y307, y308, f309, y110, y111, f112) = (F_DW_divideToPrecision_a R2 x4 x5 t0_0 t0_1 t1_0 t1_1 t2_0 t3_0 t3_1 t4_0 t5_0 t5_1 t6_0 t7_0 t7_1 t8_0 t9_0 t9_1 t10_0 t10_1 t11_0) from Eq.trans (by rw [e343, e342, e341, e340, e339, e338, e337, e336, e335, e334, e333, e332, F_DW_divideToPrecision_a_c183_6.eq_1]) hR344)⟩) d_4_12_186
      ·
        intro J214
        refine lv_icmp_le (tgt := 141) hx hb d_4_12_108 (by decide) (fun c349 => ?_) (fun c349 => ?_)
        ·
          exact J214 ((j164 : Int64), (y93 : Int32), (y95 : Int32), (y96 : Int32), (f97 : (Nat → Int32))) _ _ _ _ ⟨(show q_F (y95.toInt ≤ y95.toInt) from (show y95.toInt ≤ y95.toInt from by omega)), (show q_F (y96.toInt ≤ y93.toInt) from (show y96.toInt ≤ y93.toInt from by have t1 : y101.toInt ≤ y93.toInt := b123; have t2 : y96.toInt ≤ y101.toInt := b128; omega)), (show q_F (y93.toInt ≤ y96.toInt + 1) from (show y93.toInt ≤ y96.toInt + 1 from by have t1 : y93.toInt ≤ y101.toInt + 1 := b124; have t2 : y101.toInt ≤ y96.toInt := b127; omega)), (show q_F (0 ≤ y93.toInt + y96.toInt) from (show 0 ≤ y93.toInt + y96.toInt from by have t1 : 0 ≤ y101.toInt := b114; have t2 : y101.toInt ≤ y93.toInt := b123; have t3 : y101.toInt ≤ y96.toInt := b127; omega)), (show q_F (y93.toInt + y96.toInt ≤ 1) from (show y93.toInt + y96.toInt ≤ 1 from by have t1 : y101.toInt ≤ 0 := b115; have t2 : y93.toInt ≤ y101.toInt + 1 := b124; have t3 : y96.toInt ≤ y101.toInt := b128; omega)), (show q_F (0 ≤ y95.toInt + y96.toInt) from (show 0 ≤ y95.toInt + y96.toInt from by have t1 : 0 ≤ y101.toInt := b114; have t2 : y101.toInt ≤ y95.toInt := b126; have t3 : y101.toInt ≤ y96.toInt := b127; omega)), V, q_lw hl (q_lw1 1 rfl (q_lw1 2 rfl (q_lw1 3 rfl (q_lw1 4 rfl (q_lw1 5 rfl (q_lw1 6 rfl (q_lw1 7 rfl q_lw0))))))), hI, hF, hO91, hO94, hA98, hO99, hA103, hO104, hA108, hO173, hA177, hT9, hO109, hA113, (show F_DW_divideToPrecision_a_J141 R2 x4 x5 t0_0 t0_1 t1_0 t1_1 t2_0 t3_0 t3_1 t4_0 t5_0 t5_1 t6_0 t7_0 t7_1 t8_0 t9_0 t9_1 t10_0 t10_1 t11_0 j56 lx61 a86 p137 j164 y93 y95 y96 f97 y100 y101 f102 y105 y106 f107 y110 y111 f112 p184 y174 y175 f176 j164 y93 y95 y96 f97 = (F_DW_divideToPrecision_a R2 x4 x5 t0_0 t0_1 t1_0 t1_1 t2_0 t3_0 t3_1 t4_0 t5_0 t5_1 t6_0 t7_0 t7_1 t8_0 t9_0 t9_1 t10_0 t10_1 t11_0) from Eq.trans (by have c349x := c349; rw [← e196, e186] at c349x; rw [e189, e188, e187, F_DW_divideToPrecision_a_c101.eq_1, if_pos c349x]) hR190), (show True ∧ S_DW_divideToPrecision_a_J141 R2 x4 x5 t0_0 t0_1 t1_0 t1_1 t2_0 t3_0 t3_1 t4_0 t5_0 t5_1 t6_0 t7_0 t7_1 t8_0 t9_0 t9_1 t10_0 t10_1 t11_0 j56 lx61 a86 p137 j164 y93 y95 y96 f97 y100 y101 f102 y105 y106 f107 y110 y111 f112 p184 y174 y175 f176 j164 y93 y95 y96 f97 from (by rw [e189, e188, e187]; have h := hS191; rw [S_DW_divideToPrecision_a_c101.eq_1] at h; have c349x := c349; rw [← e196, e186] at c349x; rw [if_pos c349x] at h; with_reducible exact h))⟩
        ·
          refine lv_aload_n hx hb d_4_12_111 rfl (lv_at hl 3 rfl) ?_
          refine lv_dup hx hb d_4_12_112 rfl ?_
          refine q_get (ci := 5) (j := 3) (v := .int y93) C0 V i_DW rfl rfl hO91 (by decide) w_215 rfl d_4_12_113 ?_
          refine lv_aload_n hx hb d_4_12_116 rfl (lv_at hl 3 rfl) ?_
          refine q_get (ci := 5) (j := 2) (v := .ref (q 9)) C0 V i_DW rfl rfl hO91 (by decide) w_214 rfl d_4_12_117 ?_
          refine q_get (ci := 4) (j := 0) (v := .ref (q 10)) C0 V i_Mil rfl rfl hO169 (by decide) w_111 rfl d_4_12_120 ?_
          refine lv_iconst (v := 1) hx hb d_4_12_123 (by decide) ?_
          refine q_goi V (q_runV (As := [.int 1]) (rest := [.int y93, .ref (q 30)]) (d := 3) (mc := 0) (ms := 0) (ci := 2) C0 V rfl LV_DW_149 (X_Big_dropFigures l D g q u170 10 220 (n_b10 g q) (by decide) 1 hI y95 y96 hO94 f97 hA98  _) rfl rfl hO94 rfl hl.1 rfl (Nat.le_of_ble_eq_true rfl) ⟨by decide, by decide⟩ ⟨Nat.le_of_ble_eq_true rfl, Nat.le_of_ble_eq_true rfl⟩ d_4_12_124) (fun a354 u352 H locs hp353 V => ?_)
          obtain ⟨hI, hZ9⟩ := hp353
          obtain ⟨hu368, hZ9⟩ := hZ9
          obtain ⟨y356, hZ9⟩ := hZ9
          obtain ⟨y357, hZ9⟩ := hZ9
          obtain ⟨f358, hZ9⟩ := hZ9
          obtain ⟨hO355, hZ9⟩ := hZ9
          obtain ⟨hA359, hZ9⟩ := hZ9
          obtain ⟨b360, hZ9⟩ := hZ9
          obtain ⟨b361, hZ9⟩ := hZ9
          obtain ⟨b362, hZ9⟩ := hZ9
          obtain ⟨b363, hZ9⟩ := hZ9
          replace hZ9 := hZ9.2
          obtain ⟨b365, hZ9⟩ := hZ9
          obtain ⟨b366, hE367⟩ := hZ9
          replace hO355 : u352[10]? = (some (q 10, .inr (2, [.ref (q 11), .int y356, .int y357])) : Option (Nat × va_E)) := hO355
          replace hA359 : u352[11]? = (some (q 11, .inl (g 0, (220 : Int32).toNatClampNeg, .inl f358)) : Option (Nat × va_E)) := hA359
          obtain ⟨p369, e370⟩ : ∃ z, z = (F_Big_dropFigures (220 : Int32) (1 : Int32) y95 y96 f97) := ⟨_, rfl⟩
          have e371 : a354 = p369.1 := congrArg (fun z => z.1) (hE367.trans e370.symm)
          have e372 : y356 = p369.2.1 := congrArg (fun z => z.2.1) (hE367.trans e370.symm)
          have e373 : y357 = p369.2.2.1 := congrArg (fun z => z.2.2.1) (hE367.trans e370.symm)
          have e374 : f358 = p369.2.2.2 := congrArg (fun z => z.2.2.2) (hE367.trans e370.symm)
          replace b360 : q_F (0 ≤ a354.toInt) := b360
          replace b361 : q_F (a354.toInt ≤ 1) := b361
          replace b362 : q_F (0 ≤ y356.toInt) := b362
          replace b363 : q_F (0 ≤ y357.toInt) := b363
          replace b365 : q_F (y356.toInt ≤ y95.toInt) := b365
          replace b366 : q_F (y357.toInt ≤ y96.toInt) := b366
          replace hO91 := (hu368 _ (by decide)).trans hO91
          replace hO99 := (hu368 _ (by decide)).trans hO99
          replace hA103 := (hu368 _ (by decide)).trans hA103
          replace hO104 := (hu368 _ (by decide)).trans hO104
          replace hA108 := (hu368 _ (by decide)).trans hA108
          replace hO173 := (hu368 _ (by decide)).trans hO173
          replace hA177 := (hu368 _ (by decide)).trans hA177
          replace hT9 := (hu368 _ (by have z0 := zk2; simp only [List.mem_cons, List.not_mem_nil, or_false, not_or]; omega)).trans hT9
          replace hO109 := (hu368 _ (by have z0 := zk2; simp only [List.mem_cons, List.not_mem_nil, or_false, not_or]; omega)).trans hO109
          replace hA113 := (hu368 _ (by have z0 := zk2; simp only [List.mem_cons, List.not_mem_nil, or_false, not_or]; omega)).trans hA113
          replace hF := q_uc hF hu368 (by first | exact (q_sk (q_mi 0 rfl) (q_sk (q_mi 1 rfl) q_s0)) | simp)
          have hR375 := (show F_DW_divideToPrecision_a_c124 R2 x4 x5 t0_0 t0_1 t1_0 t1_1 t2_0 t3_0 t3_1 t4_0 t5_0 t5_1 t6_0 t7_0 t7_1 t8_0 t9_0 t9_1 t10_0 t10_1 t11_0 j56 lx61 a86 p137 j164 y93 y95 y96 f97 y100 y101 f102 y105 y106 f107 y110 y111 f112 p184 y174 y175 f176 p369 = (F_DW_divideToPrecision_a R2 x4 x5 t0_0 t0_1 t1_0 t1_1 t2_0 t3_0 t3_1 t4_0 t5_0 t5_1 t6_0 t7_0 t7_1 t8_0 t9_0 t9_1 t10_0 t10_1 t11_0) from Eq.trans (by have c349x := c349; rw [← e196, e186] at c349x; rw [e370, e189, e188, e187, F_DW_divideToPrecision_a_c101.eq_1, if_neg c349x]) hR190)
          have hS376 := (show True ∧ S_DW_divideToPrecision_a_c124 R2 x4 x5 t0_0 t0_1 t1_0 t1_1 t2_0 t3_0 t3_1 t4_0 t5_0 t5_1 t6_0 t7_0 t7_1 t8_0 t9_0 t9_1 t10_0 t10_1 t11_0 j56 lx61 a86 p137 j164 y93 y95 y96 f97 y100 y101 f102 y105 y106 f107 y110 y111 f112 p184 y174 y175 f176 p369 from (by rw [e370, e189, e188, e187]; have h := hS191; rw [S_DW_divideToPrecision_a_c101.eq_1] at h; have c349x := c349; rw [← e196, e186] at c349x; rw [if_neg c349x] at h; with_reducible exact h))
          refine lv_ior hx hb d_4_12_127 ?_
          obtain ⟨a380, e381⟩ := q_nm (y93 ||| a354 : Int32)
          refine q_ti (v := a380) e381 ?_
          have b382 : q_F (0 ≤ a380.toInt ∧ a380.toInt ≤ 1) := (by rw [← e381]; show 0 ≤ (y93 ||| a354 : Int32).toInt ∧ (y93 ||| a354 : Int32).toInt ≤ 1; exact s_or' (x := y93) (y := a354) 1 (by decide) 1 (by decide) ⟨(by have t1 : 0 ≤ y101.toInt := b114; have t2 : y101.toInt ≤ y93.toInt := b123; have t3 : y101.toInt ≤ 0 := b115; have t4 : y93.toInt ≤ y101.toInt + 1 := b124; omega), (by have t1 : 0 ≤ y101.toInt := b114; have t2 : y101.toInt ≤ y93.toInt := b123; have t3 : y101.toInt ≤ 0 := b115; have t4 : y93.toInt ≤ y101.toInt + 1 := b124; omega)⟩ ⟨(by have t1 : 0 ≤ a354.toInt := b360; have t2 : a354.toInt ≤ 1 := b361; omega), (by have t1 : 0 ≤ a354.toInt := b360; have t2 : a354.toInt ≤ 1 := b361; omega)⟩)
          refine q_put (ci := 5) (j := 3) (v := .int a380) (ty := .boolean) C0 V i_DW o_DW n_DW rfl rfl hO91 (by decide) w_215 rfl rfl (q_nz01 (q_Ile (x := 0) (y := a380.toInt) (by decide) rfl (by first | with_reducible exact (q_fe b382).2 | with_reducible exact (q_fe b382).1 | (have t1 : 0 ≤ a380.toInt ∧ a380.toInt ≤ 1 := b382; omega))) (q_Ile (x := a380.toInt) (y := 1) rfl (by decide) (by first | with_reducible exact (q_fe b382).2 | with_reducible exact (q_fe b382).1 | (have t1 : 0 ≤ a380.toInt ∧ a380.toInt ≤ 1 := b382; omega)))) (q_fz01 (q_Ile (x := 0) (y := a380.toInt) (by decide) rfl (by first | with_reducible exact (q_fe b382).2 | with_reducible exact (q_fe b382).1 | (have t1 : 0 ≤ a380.toInt ∧ a380.toInt ≤ 1 := b382; omega))) (q_Ile (x := a380.toInt) (y := 1) rfl (by decide) (by first | with_reducible exact (q_fe b382).2 | with_reducible exact (q_fe b382).1 | (have t1 : 0 ≤ a380.toInt ∧ a380.toInt ≤ 1 := b382; omega)))) (Nat.le_of_ble_eq_true rfl) d_4_12_128 (fun H locs w383 hu384 hO91 V => ?_)
          replace hO91 : w383[30]? = (some (q 30, .inr (5, [.ref (q 31), .long j164, .ref (q 9), .int a380])) : Option (Nat × va_E)) := hO91
          replace hI := n_p30 hI hu384 hO91 (by first | with_reducible exact q_fe b382 | exact ⟨(by have t1 : 0 ≤ a380.toInt ∧ a380.toInt ≤ 1 := b382; omega), (by have t1 : 0 ≤ a380.toInt ∧ a380.toInt ≤ 1 := b382; omega)⟩)
          replace hO355 := (hu384 _ (by decide)).trans hO355
          replace hA359 := (hu384 _ (by decide)).trans hA359
          replace hO99 := (hu384 _ (by decide)).trans hO99
          replace hA103 := (hu384 _ (by decide)).trans hA103
          replace hO104 := (hu384 _ (by decide)).trans hO104
          replace hA108 := (hu384 _ (by decide)).trans hA108
          replace hO173 := (hu384 _ (by decide)).trans hO173
          replace hA177 := (hu384 _ (by decide)).trans hA177
          replace hT9 := (hu384 _ (by have z := ne_k2_30; omega)).trans hT9
          replace hO109 := (hu384 _ (by have z := ne_k2_29; omega)).trans hO109
          replace hA113 := (hu384 _ (by have z := ne_k2_28; omega)).trans hA113
          replace hF := q_us hF hu384 (by simp)
          refine lv_aload_n hx hb d_4_12_131 rfl (lv_at hl 3 rfl) ?_
          refine lv_dup hx hb d_4_12_132 rfl ?_
          refine q_get (ci := 5) (j := 1) (v := .long j164) C0 V i_DW rfl rfl hO91 (by decide) w_212 rfl d_4_12_133 ?_
          refine lv_lconst (v := 1) hx hb d_4_12_136 (by decide) ?_
          refine lv_lsub hx hb d_4_12_137 ?_
          obtain ⟨j385, e386⟩ := q_nm (j164 - 1 : Int64)
          refine q_tl (v := j385) e386 ?_
          refine q_put (ci := 5) (j := 1) (v := .long j385) (ty := .long) C0 V i_DW o_DW n_DW rfl rfl hO91 (by decide) w_212 rfl rfl rfl rfl (Nat.le_of_ble_eq_true rfl) d_4_12_138 (fun H locs w387 hu388 hO91 V => ?_)
          replace hO91 : w387[30]? = (some (q 30, .inr (5, [.ref (q 31), .long j385, .ref (q 9), .int a380])) : Option (Nat × va_E)) := hO91
          replace hI := n_p30 hI hu388 hO91 (by first | with_reducible exact q_fe b382 | exact ⟨(by have t1 : 0 ≤ a380.toInt ∧ a380.toInt ≤ 1 := b382; omega), (by have t1 : 0 ≤ a380.toInt ∧ a380.toInt ≤ 1 := b382; omega)⟩)
          replace hO355 := (hu388 _ (by decide)).trans hO355
          replace hA359 := (hu388 _ (by decide)).trans hA359
          replace hO99 := (hu388 _ (by decide)).trans hO99
          replace hA103 := (hu388 _ (by decide)).trans hA103
          replace hO104 := (hu388 _ (by decide)).trans hO104
          replace hA108 := (hu388 _ (by decide)).trans hA108
          replace hO173 := (hu388 _ (by decide)).trans hO173
          replace hA177 := (hu388 _ (by decide)).trans hA177
          replace hT9 := (hu388 _ (by have z := ne_k2_30; omega)).trans hT9
          replace hO109 := (hu388 _ (by have z := ne_k2_29; omega)).trans hO109
          replace hA113 := (hu388 _ (by have z := ne_k2_28; omega)).trans hA113
          replace hF := q_us hF hu388 (by simp)
          exact J214 ((j385 : Int64), (a380 : Int32), (y356 : Int32), (y357 : Int32), (f358 : (Nat → Int32))) _ _ _ _ ⟨(show q_F (y356.toInt ≤ y95.toInt) from (show y356.toInt ≤ y95.toInt from by have t1 : y356.toInt ≤ y95.toInt := b365; omega)), (show q_F (y357.toInt ≤ a380.toInt) from (show y357.toInt ≤ a380.toInt from by have t1 : y101.toInt ≤ 0 := b115; have t2 : y96.toInt ≤ y101.toInt := b128; have t3 : y357.toInt ≤ y96.toInt := b366; have t4 : 0 ≤ a380.toInt ∧ a380.toInt ≤ 1 := b382; omega)), (show q_F (a380.toInt ≤ y357.toInt + 1) from (show a380.toInt ≤ y357.toInt + 1 from by have t1 : 0 ≤ y357.toInt := b363; have t2 : 0 ≤ a380.toInt ∧ a380.toInt ≤ 1 := b382; omega)), (show q_F (0 ≤ a380.toInt + y357.toInt) from (show 0 ≤ a380.toInt + y357.toInt from by have t1 : 0 ≤ y357.toInt := b363; have t2 : 0 ≤ a380.toInt ∧ a380.toInt ≤ 1 := b382; omega)), (show q_F (a380.toInt + y357.toInt ≤ 1) from (show a380.toInt + y357.toInt ≤ 1 from by have t1 : y101.toInt ≤ 0 := b115; have t2 : y96.toInt ≤ y101.toInt := b128; have t3 : y357.toInt ≤ y96.toInt := b366; have t4 : 0 ≤ a380.toInt ∧ a380.toInt ≤ 1 := b382; omega)), (show q_F (0 ≤ y356.toInt + y357.toInt) from (show 0 ≤ y356.toInt + y357.toInt from by have t1 : 0 ≤ y356.toInt := b362; have t2 : 0 ≤ y357.toInt := b363; omega)), V, q_lw hl (q_lw1 1 rfl (q_lw1 2 rfl (q_lw1 3 rfl (q_lw1 4 rfl (q_lw1 5 rfl (q_lw1 6 rfl (q_lw1 7 rfl q_lw0))))))), hI, hF, hO91, hO355, hA359, hO99, hA103, hO104, hA108, hO173, hA177, hT9, hO109, hA113, (show F_DW_divideToPrecision_a_J141 R2 x4 x5 t0_0 t0_1 t1_0 t1_1 t2_0 t3_0 t3_1 t4_0 t5_0 t5_1 t6_0 t7_0 t7_1 t8_0 t9_0 t9_1 t10_0 t10_1 t11_0 j56 lx61 a86 p137 j164 y93 y95 y96 f97 y100 y101 f102 y105 y106 f107 y110 y111 f112 p184 y174 y175 f176 j385 a380 y356 y357 f358 = (F_DW_divideToPrecision_a R2 x4 x5 t0_0 t0_1 t1_0 t1_1 t2_0 t3_0 t3_1 t4_0 t5_0 t5_1 t6_0 t7_0 t7_1 t8_0 t9_0 t9_1 t10_0 t10_1 t11_0) from Eq.trans (by rw [← e386, ← e381, e374, e373, e372, e371, F_DW_divideToPrecision_a_c124.eq_1]) hR375), (show True ∧ S_DW_divideToPrecision_a_J141 R2 x4 x5 t0_0 t0_1 t1_0 t1_1 t2_0 t3_0 t3_1 t4_0 t5_0 t5_1 t6_0 t7_0 t7_1 t8_0 t9_0 t9_1 t10_0 t10_1 t11_0 j56 lx61 a86 p137 j164 y93 y95 y96 f97 y100 y101 f102 y105 y106 f107 y110 y111 f112 p184 y174 y175 f176 j385 a380 y356 y357 f358 from (by rw [← e386, ← e381, e374, e373, e372, e371]; have h := hS376; rw [S_DW_divideToPrecision_a_c124.eq_1] at h; with_reducible exact h))⟩
    ·
      intro J74
      refine lv_if_ne (tgt := 51) hx hb d_4_12_42 (by decide) (fun c389 => ?_) (fun c389 => ?_)
      ·
        refine lv_iload_n hx hb d_4_12_51 rfl (lv_at hl 4 rfl) ?_
        exact J74 ((x4 : Int32)) _ _ _ ws ⟨(show q_F (x4.toInt ≤ x4.toInt) from (show x4.toInt ≤ x4.toInt from by omega)), (show q_F (x4.toInt ≤ x4.toInt + 1000) from (show x4.toInt ≤ x4.toInt + 1000 from by omega)), V, q_lw hl (q_lw1 0 rfl (q_lw1 1 rfl (q_lw1 2 rfl (q_lw1 3 rfl (q_lw1 4 rfl (q_lw1 5 rfl q_lw0)))))), (show F_DW_divideToPrecision_a_J52 R2 x4 x5 t0_0 t0_1 t1_0 t1_1 t2_0 t3_0 t3_1 t4_0 t5_0 t5_1 t6_0 t7_0 t7_1 t8_0 t9_0 t9_1 t10_0 t10_1 t11_0 j56 x4 = (F_DW_divideToPrecision_a R2 x4 x5 t0_0 t0_1 t1_0 t1_1 t2_0 t3_0 t3_1 t4_0 t5_0 t5_1 t6_0 t7_0 t7_1 t8_0 t9_0 t9_1 t10_0 t10_1 t11_0) from (by rw [← e57, ← e54, ← e51, F_DW_divideToPrecision_a.eq_1, if_neg c59, if_neg c389])), (show True ∧ S_DW_divideToPrecision_a_J52 R2 x4 x5 t0_0 t0_1 t1_0 t1_1 t2_0 t3_0 t3_1 t4_0 t5_0 t5_1 t6_0 t7_0 t7_1 t8_0 t9_0 t9_1 t10_0 t10_1 t11_0 j56 x4 from (by rw [← e57, ← e54, ← e51]; have h := hS; rw [S_DW_divideToPrecision_a.eq_1] at h; rw [if_neg c59] at h; rw [if_neg c389] at h; with_reducible exact h))⟩
      ·
        have b391 : q_F (x4.toInt = 0) := (q_eqI c389)
        refine lv_sipush (v := 1000) hx hb d_4_12_45 (by decide) ?_
        refine lv_goto (tgt := 52) hx hb d_4_12_48 (by decide) ?_
        exact J74 ((1000 : Int32)) _ _ _ ws ⟨(show q_F (x4.toInt ≤ 1000) from (show x4.toInt ≤ 1000 from by have t1 : x4.toInt = 0 := b391; omega)), (show q_F (1000 ≤ x4.toInt + 1000) from (show 1000 ≤ x4.toInt + 1000 from by have t1 : x4.toInt = 0 := b391; omega)), V, q_lw hl (q_lw1 0 rfl (q_lw1 1 rfl (q_lw1 2 rfl (q_lw1 3 rfl (q_lw1 4 rfl (q_lw1 5 rfl q_lw0)))))), (show F_DW_divideToPrecision_a_J52 R2 x4 x5 t0_0 t0_1 t1_0 t1_1 t2_0 t3_0 t3_1 t4_0 t5_0 t5_1 t6_0 t7_0 t7_1 t8_0 t9_0 t9_1 t10_0 t10_1 t11_0 j56 1000 = (F_DW_divideToPrecision_a R2 x4 x5 t0_0 t0_1 t1_0 t1_1 t2_0 t3_0 t3_1 t4_0 t5_0 t5_1 t6_0 t7_0 t7_1 t8_0 t9_0 t9_1 t10_0 t10_1 t11_0) from (by rw [← e57, ← e54, ← e51, F_DW_divideToPrecision_a.eq_1, if_neg c59, if_pos c389])), (show True ∧ S_DW_divideToPrecision_a_J52 R2 x4 x5 t0_0 t0_1 t1_0 t1_1 t2_0 t3_0 t3_1 t4_0 t5_0 t5_1 t6_0 t7_0 t7_1 t8_0 t9_0 t9_1 t10_0 t10_1 t11_0 j56 1000 from (by rw [← e57, ← e54, ← e51]; have h := hS; rw [S_DW_divideToPrecision_a.eq_1] at h; rw [if_neg c59] at h; rw [if_pos c389] at h; with_reducible exact h))⟩
  ·
    have b392 : q_F (t10_0.toInt = 0) := (q_eqI c59)
    refine lv_aload_n hx hb d_4_12_23 rfl (lv_at hl 1 rfl) ?_
    refine q_get (ci := 5) (j := 2) (v := .ref (q 9)) C0 V i_DW rfl rfl hT0 (by decide) w_214 rfl d_4_12_24 ?_
    have hO393 := n_o9 hI
    refine q_get (ci := 4) (j := 0) (v := .ref (q 10)) C0 V i_Mil rfl rfl hO393 (by decide) w_111 rfl d_4_12_27 ?_
    refine q_gov V (q_runV (As := []) (rest := []) (d := 1) (mc := 0) (ms := 0) (ci := 2) C0 V rfl LV_DW_135 (X_Big_clear l D g q ws 10 220 (n_b10 g q) (by decide)  hI t1_0 t1_1 hT1  _) rfl rfl hT1 rfl hl.1 rfl (Nat.le_of_ble_eq_true rfl) ⟨by decide, by decide⟩ ⟨Nat.le_of_ble_eq_true rfl, Nat.le_of_ble_eq_true rfl⟩ d_4_12_30) (fun u394 H locs hp395 V => ?_)
    obtain ⟨hI, hZ9⟩ := hp395
    obtain ⟨hu404, hZ9⟩ := hZ9
    obtain ⟨y397, hZ9⟩ := hZ9
    obtain ⟨y398, hZ9⟩ := hZ9
    obtain ⟨hO396, hZ9⟩ := hZ9
    obtain ⟨b399, hZ9⟩ := hZ9
    obtain ⟨b400, hZ9⟩ := hZ9
    obtain ⟨b401, hZ9⟩ := hZ9
    obtain ⟨b402, hE403⟩ := hZ9
    replace hO396 : u394[10]? = (some (q 10, .inr (2, [.ref (q 11), .int y397, .int y398])) : Option (Nat × va_E)) := hO396
    obtain ⟨p405, e406⟩ : ∃ z, z = (F_Big_clear (220 : Int32) t1_0 t1_1) := ⟨_, rfl⟩
    have e407 : y397 = p405.1 := congrArg (fun z => z.1) (hE403.trans e406.symm)
    have e408 : y398 = p405.2 := congrArg (fun z => z.2) (hE403.trans e406.symm)
    replace b399 : q_F (0 ≤ y398.toInt) := b399
    replace b400 : q_F (y398.toInt ≤ 0) := b400
    replace b401 : q_F (y398.toInt ≤ y397.toInt) := b401
    replace b402 : q_F (y397.toInt ≤ y398.toInt) := b402
    replace hT0 := (hu404 _ (by decide)).trans hT0
    replace hT2 := (hu404 _ (by decide)).trans hT2
    replace hT3 := (hu404 _ (by decide)).trans hT3
    replace hT4 := (hu404 _ (by decide)).trans hT4
    replace hT5 := (hu404 _ (by decide)).trans hT5
    replace hT6 := (hu404 _ (by decide)).trans hT6
    replace hT7 := (hu404 _ (by decide)).trans hT7
    replace hT8 := (hu404 _ (by decide)).trans hT8
    replace hT10 := (hu404 _ (by have z0 := zk2; simp only [List.mem_cons, List.not_mem_nil, or_false, not_or]; omega)).trans hT10
    replace hT11 := (hu404 _ (by have z0 := zk2; simp only [List.mem_cons, List.not_mem_nil, or_false, not_or]; omega)).trans hT11
    replace hF := q_uc hF hu404 (by first | exact (q_sk (q_mi 0 rfl) q_s0) | simp)
    have hR409 := (show F_DW_divideToPrecision_a_c30 R2 x4 x5 t0_0 t0_1 t1_0 t1_1 t2_0 t3_0 t3_1 t4_0 t5_0 t5_1 t6_0 t7_0 t7_1 t8_0 t9_0 t9_1 t10_0 t10_1 t11_0 j56 p405 = (F_DW_divideToPrecision_a R2 x4 x5 t0_0 t0_1 t1_0 t1_1 t2_0 t3_0 t3_1 t4_0 t5_0 t5_1 t6_0 t7_0 t7_1 t8_0 t9_0 t9_1 t10_0 t10_1 t11_0) from (by rw [e406, ← e57, ← e54, ← e51, F_DW_divideToPrecision_a.eq_1, if_pos c59]))
    have hS410 := (show True ∧ S_DW_divideToPrecision_a_c30 R2 x4 x5 t0_0 t0_1 t1_0 t1_1 t2_0 t3_0 t3_1 t4_0 t5_0 t5_1 t6_0 t7_0 t7_1 t8_0 t9_0 t9_1 t10_0 t10_1 t11_0 j56 p405 from (by rw [e406, ← e57, ← e54, ← e51]; have h := hS; rw [S_DW_divideToPrecision_a.eq_1] at h; rw [if_pos c59] at h; with_reducible exact h))
    refine lv_aload_n hx hb d_4_12_33 rfl (lv_at hl 1 rfl) ?_
    refine lv_lload hx hb d_4_12_34 (lv_at hl 0 rfl) ?_
    refine q_put (ci := 5) (j := 1) (v := .long j56) (ty := .long) C0 V i_DW o_DW n_DW rfl rfl hT0 (by decide) w_212 rfl rfl rfl rfl (Nat.le_of_ble_eq_true rfl) d_4_12_36 (fun H locs w414 hu415 hT0 V => ?_)
    replace hT0 : w414[30]? = (some (q 30, .inr (5, [.ref (q 31), .long j56, .ref (q 9), .int t0_1])) : Option (Nat × va_E)) := hT0
    replace hI := n_p30 hI hu415 hT0 (by first | with_reducible exact q_fe btt0_1 | exact ⟨(by have t1 : 0 ≤ t0_1.toInt ∧ t0_1.toInt ≤ 1 := btt0_1; omega), (by have t1 : 0 ≤ t0_1.toInt ∧ t0_1.toInt ≤ 1 := btt0_1; omega)⟩)
    replace hO396 := (hu415 _ (by decide)).trans hO396
    replace hT2 := (hu415 _ (by decide)).trans hT2
    replace hT3 := (hu415 _ (by decide)).trans hT3
    replace hT4 := (hu415 _ (by decide)).trans hT4
    replace hT5 := (hu415 _ (by decide)).trans hT5
    replace hT6 := (hu415 _ (by decide)).trans hT6
    replace hT7 := (hu415 _ (by decide)).trans hT7
    replace hT8 := (hu415 _ (by decide)).trans hT8
    replace hT10 := (hu415 _ (by have z := ne_k2_29; omega)).trans hT10
    replace hT11 := (hu415 _ (by have z := ne_k2_28; omega)).trans hT11
    replace hF := q_us hF hu415 (by simp)
    refine lv_iconst (v := 1) hx hb d_4_12_39 (by decide) ?_
    exact q_retz C0 V (by decide) (⟨hI, hF, j56, t0_1, y397, y398, t2_0, t3_0, t3_1, t4_0, t5_0, t5_1, t6_0, t7_0, t7_1, t8_0, t10_0, t10_1, t11_0, hT0, hO396, hT2, hT3, hT4, hT5, hT6, hT7, hT8, hT10, hT11, (show 0 ≤ (1 : Int32).toInt from (by have z22 : (1 : Int32).toInt = 1 := rfl; omega)), (show (1 : Int32).toInt ≤ 1 from (by have z22 : (1 : Int32).toInt = 1 := rfl; omega)), (show 0 ≤ t0_1.toInt from (by have z22 : (1 : Int32).toInt = 1 := rfl; have t1 : 0 ≤ t0_1.toInt ∧ t0_1.toInt ≤ 1 := btt0_1; omega)), (show t0_1.toInt ≤ 1 from (by have z22 : (1 : Int32).toInt = 1 := rfl; have t1 : 0 ≤ t0_1.toInt ∧ t0_1.toInt ≤ 1 := btt0_1; omega)), (show 0 ≤ y397.toInt from (by have z22 : (1 : Int32).toInt = 1 := rfl; have t1 : 0 ≤ y398.toInt := b399; have t2 : y398.toInt ≤ y397.toInt := b401; omega)), (show y397.toInt ≤ 220 from (by have z22 : (1 : Int32).toInt = 1 := rfl; have t1 : y398.toInt ≤ 0 := b400; have t2 : y397.toInt ≤ y398.toInt := b402; omega)), (show 0 ≤ y398.toInt from (by have z22 : (1 : Int32).toInt = 1 := rfl; have t1 : 0 ≤ y398.toInt := b399; omega)), (show y398.toInt ≤ 1 from (by have z22 : (1 : Int32).toInt = 1 := rfl; have t1 : y398.toInt ≤ 0 := b400; omega)), (show 0 ≤ t3_0.toInt from (by have z22 : (1 : Int32).toInt = 1 := rfl; have t1 : 0 ≤ t3_0.toInt ∧ t3_0.toInt ≤ 220 := btt3_0; omega)), (show t3_0.toInt ≤ 220 from (by have z22 : (1 : Int32).toInt = 1 := rfl; have t1 : 0 ≤ t3_0.toInt ∧ t3_0.toInt ≤ 220 := btt3_0; omega)), (show 0 ≤ t3_1.toInt from (by have z22 : (1 : Int32).toInt = 1 := rfl; have t1 : 0 ≤ t3_1.toInt ∧ t3_1.toInt ≤ 1 := btt3_1; omega)), (show t3_1.toInt ≤ 1 from (by have z22 : (1 : Int32).toInt = 1 := rfl; have t1 : 0 ≤ t3_1.toInt ∧ t3_1.toInt ≤ 1 := btt3_1; omega)), (show 0 ≤ t5_0.toInt from (by have z22 : (1 : Int32).toInt = 1 := rfl; have t1 : 0 ≤ t5_0.toInt ∧ t5_0.toInt ≤ 220 := btt5_0; omega)), (show t5_0.toInt ≤ 220 from (by have z22 : (1 : Int32).toInt = 1 := rfl; have t1 : 0 ≤ t5_0.toInt ∧ t5_0.toInt ≤ 220 := btt5_0; omega)), (show 0 ≤ t5_1.toInt from (by have z22 : (1 : Int32).toInt = 1 := rfl; have t1 : 0 ≤ t5_1.toInt ∧ t5_1.toInt ≤ 1 := btt5_1; omega)), (show t5_1.toInt ≤ 1 from (by have z22 : (1 : Int32).toInt = 1 := rfl; have t1 : 0 ≤ t5_1.toInt ∧ t5_1.toInt ≤ 1 := btt5_1; omega)), (show 0 ≤ t7_0.toInt from (by have z22 : (1 : Int32).toInt = 1 := rfl; have t1 : 0 ≤ t7_0.toInt ∧ t7_0.toInt ≤ 220 := btt7_0; omega)), (show t7_0.toInt ≤ 220 from (by have z22 : (1 : Int32).toInt = 1 := rfl; have t1 : 0 ≤ t7_0.toInt ∧ t7_0.toInt ≤ 220 := btt7_0; omega)), (show 0 ≤ t7_1.toInt from (by have z22 : (1 : Int32).toInt = 1 := rfl; have t1 : 0 ≤ t7_1.toInt ∧ t7_1.toInt ≤ 1 := btt7_1; omega)), (show t7_1.toInt ≤ 1 from (by have z22 : (1 : Int32).toInt = 1 := rfl; have t1 : 0 ≤ t7_1.toInt ∧ t7_1.toInt ≤ 1 := btt7_1; omega)), (show 0 ≤ t10_0.toInt from (by have z22 : (1 : Int32).toInt = 1 := rfl; have t1 : 0 ≤ t10_0.toInt ∧ t10_0.toInt ≤ R2.toInt := btt10_0; omega)), (show t10_0.toInt ≤ 220 from (by have z22 : (1 : Int32).toInt = 1 := rfl; have t1 : t10_0.toInt = 0 := b392; omega)), (show 0 ≤ t10_1.toInt from (by have z22 : (1 : Int32).toInt = 1 := rfl; have t1 : 0 ≤ t10_1.toInt ∧ t10_1.toInt ≤ 1 := btt10_1; omega)), (show t10_1.toInt ≤ 1 from (by have z22 : (1 : Int32).toInt = 1 := rfl; have t1 : 0 ≤ t10_1.toInt ∧ t10_1.toInt ≤ 1 := btt10_1; omega)), (show y397.toInt ≤ t10_0.toInt + 219 from (by have z22 : (1 : Int32).toInt = 1 := rfl; have t1 : 0 ≤ t10_0.toInt ∧ t10_0.toInt ≤ R2.toInt := btt10_0; have t2 : y398.toInt ≤ 0 := b400; have t3 : y397.toInt ≤ y398.toInt := b402; omega)), (show y398.toInt ≤ t10_0.toInt from (by have z22 : (1 : Int32).toInt = 1 := rfl; have t1 : 0 ≤ t10_0.toInt ∧ t10_0.toInt ≤ R2.toInt := btt10_0; have t2 : y398.toInt ≤ 0 := b400; omega)), (show t3_1.toInt ≤ t3_1.toInt from (by have z22 : (1 : Int32).toInt = 1 := rfl; omega)), (show t10_0.toInt ≤ t10_0.toInt + 218 from (by have z22 : (1 : Int32).toInt = 1 := rfl; omega)), (show t10_0.toInt ≤ R2.toInt from (by have z22 : (1 : Int32).toInt = 1 := rfl; have t1 : 0 ≤ t10_0.toInt ∧ t10_0.toInt ≤ R2.toInt := btt10_0; omega)), (show t10_1.toInt ≤ t10_1.toInt from (by have z22 : (1 : Int32).toInt = 1 := rfl; omega)), (show t3_1.toInt ≤ (1 : Int32).toInt from (by have z22 : (1 : Int32).toInt = 1 := rfl; have t1 : 0 ≤ t3_1.toInt ∧ t3_1.toInt ≤ 1 := btt3_1; omega)), (show ((1 : Int32), j56, t0_1, y397, y398, t2_0, t3_0, t3_1, t4_0, t5_0, t5_1, t6_0, t7_0, t7_1, t8_0, t10_0, t10_1, t11_0) = (F_DW_divideToPrecision_a R2 x4 x5 t0_0 t0_1 t1_0 t1_1 t2_0 t3_0 t3_1 t4_0 t5_0 t5_1 t6_0 t7_0 t7_1 t8_0 t9_0 t9_1 t10_0 t10_1 t11_0) from Eq.trans (by rw [e408, e407, F_DW_divideToPrecision_a_c30.eq_1]) hR409)⟩) d_4_12_40
theorem d_4_13_0 : decode prog_4_method_13_code 0 = .ok (.aload_n 1, 1) := by decide +kernel
theorem d_4_13_1 : decode prog_4_method_13_code 1 = .ok (.getfield 48, 3) := by decide +kernel
theorem d_4_13_4 : decode prog_4_method_13_code 4 = .ok (.iconst 2, 1) := by decide +kernel
theorem d_4_13_5 : decode prog_4_method_13_code 5 = .ok (.invokestatic 157, 3) := by decide +kernel
set_option maxRecDepth 100000 in
theorem w_1486 : (Cond.code ({ cls := "java/lang/Math", name := "floorDiv", desc := "(II)I" } : MethodName) prog_29_method_47_code (3 : Nat) (some .int)) ∈ q_tbl := q_of7 46 rfl (by decide +kernel)
set_option maxRecDepth 100000 in
theorem w_1484 : (Cond.methodLink "NumberHouse$DecimalWork" (157 : Nat) ({ cls := "java/lang/Math", name := "floorDiv", desc := "(II)I" } : MethodName)) ∈ q_tbl := q_of7 44 rfl (by decide +kernel)
set_option maxRecDepth 100000 in
theorem w_1485 : (Cond.static ({ cls := "java/lang/Math", name := "floorDiv", desc := "(II)I" } : MethodName)) ∈ q_tbl := q_of7 45 rfl (by decide +kernel)
theorem LS_DW_157 : q_LS "NumberHouse$DecimalWork" 157 y_jMath_floorDiv_III prog_29_method_47_code 3 (some .int) 2 := ⟨w_1486, w_7, w_1484, w_1485, ⟨by decide, by decide, by decide +kernel⟩⟩
theorem d_4_13_8 : decode prog_4_method_13_code 8 = .ok (.istore 4, 2) := by decide +kernel
theorem d_4_13_10 : decode prog_4_method_13_code 10 = .ok (.aload_n 1, 1) := by decide +kernel
theorem d_4_13_11 : decode prog_4_method_13_code 11 = .ok (.getfield 24, 3) := by decide +kernel
theorem d_4_13_14 : decode prog_4_method_13_code 14 = .ok (.getfield 63, 3) := by decide +kernel
theorem d_4_13_17 : decode prog_4_method_13_code 17 = .ok (.ifCond .ne 22, 3) := by decide +kernel
theorem d_4_13_39 : decode prog_4_method_13_code 39 = .ok (.aload_n 0, 1) := by decide +kernel
theorem d_4_13_40 : decode prog_4_method_13_code 40 = .ok (.iload_n 2, 1) := by decide +kernel
theorem d_4_13_41 : decode prog_4_method_13_code 41 = .ok (.iconst 1, 1) := by decide +kernel
theorem d_4_13_42 : decode prog_4_method_13_code 42 = .ok (.isub, 1) := by decide +kernel
theorem d_4_13_43 : decode prog_4_method_13_code 43 = .ok (.aload_n 1, 1) := by decide +kernel
theorem d_4_13_44 : decode prog_4_method_13_code 44 = .ok (.getfield 52, 3) := by decide +kernel
theorem d_4_13_47 : decode prog_4_method_13_code 47 = .ok (.iconst 1, 1) := by decide +kernel
theorem d_4_13_48 : decode prog_4_method_13_code 48 = .ok (.isub, 1) := by decide +kernel
theorem d_4_13_49 : decode prog_4_method_13_code 49 = .ok (.aload_n 1, 1) := by decide +kernel
theorem d_4_13_50 : decode prog_4_method_13_code 50 = .ok (.getfield 48, 3) := by decide +kernel
theorem d_4_13_53 : decode prog_4_method_13_code 53 = .ok (.isub, 1) := by decide +kernel
theorem d_4_13_54 : decode prog_4_method_13_code 54 = .ok (.iconst 2, 1) := by decide +kernel
theorem d_4_13_55 : decode prog_4_method_13_code 55 = .ok (.invokestatic 157, 3) := by decide +kernel
theorem d_4_13_58 : decode prog_4_method_13_code 58 = .ok (.isub, 1) := by decide +kernel
theorem d_4_13_59 : decode prog_4_method_13_code 59 = .ok (.i2l, 1) := by decide +kernel
theorem d_4_13_60 : decode prog_4_method_13_code 60 = .ok (.putfield 56, 3) := by decide +kernel
theorem d_4_13_63 : decode prog_4_method_13_code 63 = .ok (.iconst 2, 1) := by decide +kernel
theorem d_4_13_64 : decode prog_4_method_13_code 64 = .ok (.aload_n 0, 1) := by decide +kernel
theorem d_4_13_65 : decode prog_4_method_13_code 65 = .ok (.getfield 56, 3) := by decide +kernel
theorem d_4_13_68 : decode prog_4_method_13_code 68 = .ok (.l2i, 1) := by decide +kernel
theorem d_4_13_69 : decode prog_4_method_13_code 69 = .ok (.iconst 1, 1) := by decide +kernel
theorem d_4_13_70 : decode prog_4_method_13_code 70 = .ok (.iadd, 1) := by decide +kernel
theorem d_4_13_71 : decode prog_4_method_13_code 71 = .ok (.imul, 1) := by decide +kernel
theorem d_4_13_72 : decode prog_4_method_13_code 72 = .ok (.aload_n 1, 1) := by decide +kernel
theorem d_4_13_73 : decode prog_4_method_13_code 73 = .ok (.getfield 48, 3) := by decide +kernel
theorem d_4_13_76 : decode prog_4_method_13_code 76 = .ok (.isub, 1) := by decide +kernel
theorem d_4_13_77 : decode prog_4_method_13_code 77 = .ok (.istore 5, 2) := by decide +kernel
theorem d_4_13_79 : decode prog_4_method_13_code 79 = .ok (.aload_n 0, 1) := by decide +kernel
theorem d_4_13_80 : decode prog_4_method_13_code 80 = .ok (.getfield 20, 3) := by decide +kernel
theorem d_4_13_83 : decode prog_4_method_13_code 83 = .ok (.getfield 55, 3) := by decide +kernel
theorem d_4_13_86 : decode prog_4_method_13_code 86 = .ok (.aload_n 1, 1) := by decide +kernel
theorem d_4_13_87 : decode prog_4_method_13_code 87 = .ok (.getfield 24, 3) := by decide +kernel
theorem d_4_13_90 : decode prog_4_method_13_code 90 = .ok (.invokevirtual 44, 3) := by decide +kernel
theorem d_4_13_93 : decode prog_4_method_13_code 93 = .ok (.aload_n 0, 1) := by decide +kernel
theorem d_4_13_94 : decode prog_4_method_13_code 94 = .ok (.getfield 20, 3) := by decide +kernel
theorem d_4_13_97 : decode prog_4_method_13_code 97 = .ok (.getfield 55, 3) := by decide +kernel
theorem d_4_13_100 : decode prog_4_method_13_code 100 = .ok (.iload 5, 2) := by decide +kernel
theorem d_4_13_102 : decode prog_4_method_13_code 102 = .ok (.invokevirtual 77, 3) := by decide +kernel
theorem d_4_13_105 : decode prog_4_method_13_code 105 = .ok (.aload_n 0, 1) := by decide +kernel
theorem d_4_13_106 : decode prog_4_method_13_code 106 = .ok (.aload_n 0, 1) := by decide +kernel
theorem d_4_13_107 : decode prog_4_method_13_code 107 = .ok (.getfield 20, 3) := by decide +kernel
theorem d_4_13_110 : decode prog_4_method_13_code 110 = .ok (.getfield 55, 3) := by decide +kernel
theorem d_4_13_113 : decode prog_4_method_13_code 113 = .ok (.iload 5, 2) := by decide +kernel
theorem d_4_13_115 : decode prog_4_method_13_code 115 = .ok (.ineg, 1) := by decide +kernel
theorem d_4_13_116 : decode prog_4_method_13_code 116 = .ok (.invokevirtual 149, 3) := by decide +kernel
theorem d_4_13_119 : decode prog_4_method_13_code 119 = .ok (.putfield 146, 3) := by decide +kernel
theorem d_4_13_122 : decode prog_4_method_13_code 122 = .ok (.aload_n 0, 1) := by decide +kernel
theorem d_4_13_123 : decode prog_4_method_13_code 123 = .ok (.getfield 20, 3) := by decide +kernel
theorem d_4_13_126 : decode prog_4_method_13_code 126 = .ok (.aload_n 0, 1) := by decide +kernel
theorem d_4_13_127 : decode prog_4_method_13_code 127 = .ok (.getfield 20, 3) := by decide +kernel
theorem d_4_13_130 : decode prog_4_method_13_code 130 = .ok (.getfield 55, 3) := by decide +kernel
theorem d_4_13_133 : decode prog_4_method_13_code 133 = .ok (.iconst 2, 1) := by decide +kernel
theorem d_4_13_134 : decode prog_4_method_13_code 134 = .ok (.invokevirtual 160, 3) := by decide +kernel
set_option maxRecDepth 100000 in
theorem w_1336 : (Cond.code ({ cls := "NumberHouse$Mill", name := "root", desc := "(LNumberHouse$Big;I)V" } : MethodName) prog_8_method_9_code (4 : Nat) (none : Option ClassFile.FieldType)) ∈ q_tbl := q_of6 136 rfl (by decide +kernel)
set_option maxRecDepth 100000 in
theorem w_1487 : (Cond.methodLink "NumberHouse$DecimalWork" (160 : Nat) ({ cls := "NumberHouse$Mill", name := "root", desc := "(LNumberHouse$Big;I)V" } : MethodName)) ∈ q_tbl := q_of7 47 rfl (by decide +kernel)
set_option maxRecDepth 100000 in
theorem w_1334 : (Cond.instanceMethod ({ cls := "NumberHouse$Mill", name := "root", desc := "(LNumberHouse$Big;I)V" } : MethodName)) ∈ q_tbl := q_of6 134 rfl (by decide +kernel)
set_option maxRecDepth 100000 in
theorem w_1335 : (Cond.selects "NumberHouse$Mill" ({ cls := "NumberHouse$Mill", name := "root", desc := "(LNumberHouse$Big;I)V" } : MethodName) ({ cls := "NumberHouse$Mill", name := "root", desc := "(LNumberHouse$Big;I)V" } : MethodName)) ∈ q_tbl := q_of6 135 rfl (by decide +kernel)
theorem LV_DW_160 : q_LV "NumberHouse$DecimalWork" 160 y_Mil_root prog_8_method_9_code 4 none 2 := ⟨w_1336, w_3, w_1487, w_1334, w_1335, ⟨by decide, by decide, by decide +kernel⟩⟩
theorem d_4_13_137 : decode prog_4_method_13_code 137 = .ok (.aload_n 0, 1) := by decide +kernel
theorem d_4_13_138 : decode prog_4_method_13_code 138 = .ok (.getfield 20, 3) := by decide +kernel
theorem d_4_13_141 : decode prog_4_method_13_code 141 = .ok (.getfield 72, 3) := by decide +kernel
theorem d_4_13_144 : decode prog_4_method_13_code 144 = .ok (.aload_n 0, 1) := by decide +kernel
theorem d_4_13_145 : decode prog_4_method_13_code 145 = .ok (.getfield 20, 3) := by decide +kernel
theorem d_4_13_148 : decode prog_4_method_13_code 148 = .ok (.getfield 164, 3) := by decide +kernel
set_option maxRecDepth 100000 in
theorem w_122 : (Cond.fieldLink "NumberHouse$DecimalWork" (164 : Nat) "NumberHouse$Mill" "root" "LNumberHouse$Big;") ∈ q_tbl := q_of1 122 rfl (by decide +kernel)
theorem d_4_13_151 : decode prog_4_method_13_code 151 = .ok (.aload_n 0, 1) := by decide +kernel
theorem d_4_13_152 : decode prog_4_method_13_code 152 = .ok (.getfield 20, 3) := by decide +kernel
theorem d_4_13_155 : decode prog_4_method_13_code 155 = .ok (.getfield 164, 3) := by decide +kernel
theorem d_4_13_158 : decode prog_4_method_13_code 158 = .ok (.invokevirtual 94, 3) := by decide +kernel
theorem d_4_13_161 : decode prog_4_method_13_code 161 = .ok (.aload_n 0, 1) := by decide +kernel
theorem d_4_13_162 : decode prog_4_method_13_code 162 = .ok (.dup, 1) := by decide +kernel
theorem d_4_13_163 : decode prog_4_method_13_code 163 = .ok (.getfield 146, 3) := by decide +kernel
theorem d_4_13_166 : decode prog_4_method_13_code 166 = .ok (.aload_n 0, 1) := by decide +kernel
theorem d_4_13_167 : decode prog_4_method_13_code 167 = .ok (.getfield 20, 3) := by decide +kernel
theorem d_4_13_170 : decode prog_4_method_13_code 170 = .ok (.getfield 72, 3) := by decide +kernel
theorem d_4_13_173 : decode prog_4_method_13_code 173 = .ok (.aload_n 0, 1) := by decide +kernel
theorem d_4_13_174 : decode prog_4_method_13_code 174 = .ok (.getfield 20, 3) := by decide +kernel
theorem d_4_13_177 : decode prog_4_method_13_code 177 = .ok (.getfield 55, 3) := by decide +kernel
theorem d_4_13_180 : decode prog_4_method_13_code 180 = .ok (.invokevirtual 166, 3) := by decide +kernel
set_option maxRecDepth 100000 in
theorem w_1488 : (Cond.methodLink "NumberHouse$DecimalWork" (166 : Nat) ({ cls := "NumberHouse$Big", name := "compareSize", desc := "(LNumberHouse$Big;)I" } : MethodName)) ∈ q_tbl := q_of7 48 rfl (by decide +kernel)
theorem LV_DW_166 : q_LV "NumberHouse$DecimalWork" 166 y_Big_compareSize prog_2_method_21_code 3 (some .int) 1 := ⟨w_780, w_4, w_1488, w_778, w_779, ⟨by decide, by decide, by decide +kernel⟩⟩
theorem d_4_13_191 : decode prog_4_method_13_code 191 = .ok (.ior, 1) := by decide +kernel
theorem d_4_13_192 : decode prog_4_method_13_code 192 = .ok (.putfield 146, 3) := by decide +kernel
theorem d_4_13_195 : decode prog_4_method_13_code 195 = .ok (.aload_n 0, 1) := by decide +kernel
theorem d_4_13_196 : decode prog_4_method_13_code 196 = .ok (.getfield 20, 3) := by decide +kernel
theorem d_4_13_199 : decode prog_4_method_13_code 199 = .ok (.getfield 55, 3) := by decide +kernel
theorem d_4_13_202 : decode prog_4_method_13_code 202 = .ok (.aload_n 0, 1) := by decide +kernel
theorem d_4_13_203 : decode prog_4_method_13_code 203 = .ok (.getfield 20, 3) := by decide +kernel
theorem d_4_13_206 : decode prog_4_method_13_code 206 = .ok (.getfield 164, 3) := by decide +kernel
theorem d_4_13_209 : decode prog_4_method_13_code 209 = .ok (.invokevirtual 44, 3) := by decide +kernel
theorem d_4_13_212 : decode prog_4_method_13_code 212 = .ok (.aload_n 0, 1) := by decide +kernel
theorem d_4_13_213 : decode prog_4_method_13_code 213 = .ok (.iconst 0, 1) := by decide +kernel
theorem d_4_13_214 : decode prog_4_method_13_code 214 = .ok (.iload_n 2, 1) := by decide +kernel
theorem d_4_13_215 : decode prog_4_method_13_code 215 = .ok (.iload 4, 2) := by decide +kernel
theorem d_4_13_217 : decode prog_4_method_13_code 217 = .ok (.i2l, 1) := by decide +kernel
theorem d_4_13_218 : decode prog_4_method_13_code 218 = .ok (.iload_n 3, 1) := by decide +kernel
theorem d_4_13_219 : decode prog_4_method_13_code 219 = .ok (.invokevirtual 153, 3) := by decide +kernel
theorem d_4_13_222 : decode prog_4_method_13_code 222 = .ok (.ireturn, 1) := by decide +kernel
theorem d_4_13_183 : decode prog_4_method_13_code 183 = .ok (.ifCond .eq 7, 3) := by decide +kernel
theorem d_4_13_190 : decode prog_4_method_13_code 190 = .ok (.iconst 0, 1) := by decide +kernel
theorem d_4_13_186 : decode prog_4_method_13_code 186 = .ok (.iconst 1, 1) := by decide +kernel
theorem d_4_13_187 : decode prog_4_method_13_code 187 = .ok (.goto 4, 3) := by decide +kernel
theorem d_4_13_20 : decode prog_4_method_13_code 20 = .ok (.aload_n 0, 1) := by decide +kernel
theorem d_4_13_21 : decode prog_4_method_13_code 21 = .ok (.getfield 20, 3) := by decide +kernel
theorem d_4_13_24 : decode prog_4_method_13_code 24 = .ok (.getfield 55, 3) := by decide +kernel
theorem d_4_13_27 : decode prog_4_method_13_code 27 = .ok (.invokevirtual 135, 3) := by decide +kernel
theorem d_4_13_30 : decode prog_4_method_13_code 30 = .ok (.aload_n 0, 1) := by decide +kernel
theorem d_4_13_31 : decode prog_4_method_13_code 31 = .ok (.iload 4, 2) := by decide +kernel
theorem d_4_13_33 : decode prog_4_method_13_code 33 = .ok (.i2l, 1) := by decide +kernel
theorem d_4_13_34 : decode prog_4_method_13_code 34 = .ok (.putfield 56, 3) := by decide +kernel
theorem d_4_13_37 : decode prog_4_method_13_code 37 = .ok (.iconst 1, 1) := by decide +kernel
theorem d_4_13_38 : decode prog_4_method_13_code 38 = .ok (.ireturn, 1) := by decide +kernel
def y_DW_squareRoot : MethodName := ⟨"NumberHouse$DecimalWork", "squareRoot", "(LNumberHouse$Dec;II)Z"⟩
def F_DW_squareRoot_c219 (R : Int32) (x3 : Int32) (x4 : Int32) (t0_0 : Int64) (t0_1 : Int32) (t1_0 : Int32) (t1_1 : Int32) (t2_0 : (Nat → Int32)) (t3_0 : Int32) (t3_1 : Int32) (t4_0 : (Nat → Int32)) (t5_0 : Int32) (t5_1 : Int32) (t6_0 : (Nat → Int32)) (t7_0 : Int32) (t7_1 : Int32) (t8_0 : (Nat → Int32)) (t9_0 : Int32) (t9_1 : Int32) (t10_0 : (Nat → Int32)) (t11_0 : Int32) (t11_1 : Int32) (t12_0 : (Nat → Int32)) (t13_0 : Int32) (t13_1 : Int32) (t14_0 : (Nat → Int32)) (t15_0 : Int32) (t15_1 : Int32) (t16_0 : (Nat → Int32)) (t17_0 : Int32) (t17_1 : Int32) (t18_0 : Int32) (t18_1 : Int32) (t19_0 : (Nat → Int32)) (a116 : Int32) (a84 : Int32) (j104 : Int64) (p133 : (Int32 × Int32 × (Nat → Int32))) (p156 : (Int32 × Int32 × (Nat → Int32))) (p185 : (Int32 × Int32 × Int32 × (Nat → Int32))) (a170 : Int32) (y172 : Int32) (y173 : Int32) (f174 : (Nat → Int32)) (p260 : (Int32 × Int32 × (Nat → Int32) × Int32 × Int32 × (Nat → Int32) × Int32 × Int32 × (Nat → Int32) × Int32 × Int32 × (Nat → Int32) × Int32 × Int32 × (Nat → Int32) × Int32 × Int32 × (Nat → Int32))) (y227 : Int32) (y228 : Int32) (f229 : (Nat → Int32)) (y207 : Int32) (y208 : Int32) (f209 : (Nat → Int32)) (y202 : Int32) (y203 : Int32) (f204 : (Nat → Int32)) (y212 : Int32) (y213 : Int32) (f214 : (Nat → Int32)) (y222 : Int32) (y223 : Int32) (f224 : (Nat → Int32)) (p298 : (Int32 × Int32 × (Nat → Int32))) (y288 : Int32) (y289 : Int32) (f290 : (Nat → Int32)) (lx315 : Int32) (a344 : Int32) (p363 : (Int32 × Int32 × (Nat → Int32))) (p416 : (Int32 × Int64 × Int32 × Int32 × Int32 × (Nat → Int32) × Int32 × Int32 × (Nat → Int32) × Int32 × Int32 × (Nat → Int32))) : Int32 × Int64 × Int32 × Int32 × Int32 × (Nat → Int32) × Int32 × Int32 × (Nat → Int32) × Int32 × Int32 × (Nat → Int32) × Int32 × Int32 × (Nat → Int32) × Int32 × Int32 × (Nat → Int32) × Int32 × Int32 × (Nat → Int32) × Int32 × Int32 × (Nat → Int32) × Int32 × Int32 × (Nat → Int32) := ((p416.1 : Int32), (p416.2.1 : Int64), (p416.2.2.1 : Int32), (p416.2.2.2.1 : Int32), (p416.2.2.2.2.1 : Int32), (p416.2.2.2.2.2.1 : (Nat → Int32)), y227, y228, f229, y207, y208, f209, y202, y203, f204, y212, y213, f214, (p416.2.2.2.2.2.2.1 : Int32), (p416.2.2.2.2.2.2.2.1 : Int32), (p416.2.2.2.2.2.2.2.2.1 : (Nat → Int32)), y222, y223, f224, (p416.2.2.2.2.2.2.2.2.2.1 : Int32), (p416.2.2.2.2.2.2.2.2.2.2.1 : Int32), (p416.2.2.2.2.2.2.2.2.2.2.2 : (Nat → Int32)))
def F_DW_squareRoot_c209 (R : Int32) (x3 : Int32) (x4 : Int32) (t0_0 : Int64) (t0_1 : Int32) (t1_0 : Int32) (t1_1 : Int32) (t2_0 : (Nat → Int32)) (t3_0 : Int32) (t3_1 : Int32) (t4_0 : (Nat → Int32)) (t5_0 : Int32) (t5_1 : Int32) (t6_0 : (Nat → Int32)) (t7_0 : Int32) (t7_1 : Int32) (t8_0 : (Nat → Int32)) (t9_0 : Int32) (t9_1 : Int32) (t10_0 : (Nat → Int32)) (t11_0 : Int32) (t11_1 : Int32) (t12_0 : (Nat → Int32)) (t13_0 : Int32) (t13_1 : Int32) (t14_0 : (Nat → Int32)) (t15_0 : Int32) (t15_1 : Int32) (t16_0 : (Nat → Int32)) (t17_0 : Int32) (t17_1 : Int32) (t18_0 : Int32) (t18_1 : Int32) (t19_0 : (Nat → Int32)) (a116 : Int32) (a84 : Int32) (j104 : Int64) (p133 : (Int32 × Int32 × (Nat → Int32))) (p156 : (Int32 × Int32 × (Nat → Int32))) (p185 : (Int32 × Int32 × Int32 × (Nat → Int32))) (a170 : Int32) (y172 : Int32) (y173 : Int32) (f174 : (Nat → Int32)) (p260 : (Int32 × Int32 × (Nat → Int32) × Int32 × Int32 × (Nat → Int32) × Int32 × Int32 × (Nat → Int32) × Int32 × Int32 × (Nat → Int32) × Int32 × Int32 × (Nat → Int32) × Int32 × Int32 × (Nat → Int32))) (y227 : Int32) (y228 : Int32) (f229 : (Nat → Int32)) (y207 : Int32) (y208 : Int32) (f209 : (Nat → Int32)) (y202 : Int32) (y203 : Int32) (f204 : (Nat → Int32)) (y212 : Int32) (y213 : Int32) (f214 : (Nat → Int32)) (y222 : Int32) (y223 : Int32) (f224 : (Nat → Int32)) (p298 : (Int32 × Int32 × (Nat → Int32))) (y288 : Int32) (y289 : Int32) (f290 : (Nat → Int32)) (lx315 : Int32) (a344 : Int32) (p363 : (Int32 × Int32 × (Nat → Int32))) : Int32 × Int64 × Int32 × Int32 × Int32 × (Nat → Int32) × Int32 × Int32 × (Nat → Int32) × Int32 × Int32 × (Nat → Int32) × Int32 × Int32 × (Nat → Int32) × Int32 × Int32 × (Nat → Int32) × Int32 × Int32 × (Nat → Int32) × Int32 × Int32 × (Nat → Int32) × Int32 × Int32 × (Nat → Int32) := F_DW_squareRoot_c219 R x3 x4 t0_0 t0_1 t1_0 t1_1 t2_0 t3_0 t3_1 t4_0 t5_0 t5_1 t6_0 t7_0 t7_1 t8_0 t9_0 t9_1 t10_0 t11_0 t11_1 t12_0 t13_0 t13_1 t14_0 t15_0 t15_1 t16_0 t17_0 t17_1 t18_0 t18_1 t19_0 a116 a84 j104 p133 p156 p185 a170 y172 y173 f174 p260 y227 y228 f229 y207 y208 f209 y202 y203 f204 y212 y213 f214 y222 y223 f224 p298 y288 y289 f290 lx315 a344 p363 ((F_DW_shorten (0 : Int32) x3 (a84.toInt64 : Int64) x4 j104 a344 (p363.1 : Int32) (p363.2.1 : Int32) (p363.2.2 : (Nat → Int32)) y288 y289 f290 t15_0 t15_1 t16_0) : (Int32 × Int64 × Int32 × Int32 × Int32 × (Nat → Int32) × Int32 × Int32 × (Nat → Int32) × Int32 × Int32 × (Nat → Int32)))
def F_DW_squareRoot_J191 (R : Int32) (x3 : Int32) (x4 : Int32) (t0_0 : Int64) (t0_1 : Int32) (t1_0 : Int32) (t1_1 : Int32) (t2_0 : (Nat → Int32)) (t3_0 : Int32) (t3_1 : Int32) (t4_0 : (Nat → Int32)) (t5_0 : Int32) (t5_1 : Int32) (t6_0 : (Nat → Int32)) (t7_0 : Int32) (t7_1 : Int32) (t8_0 : (Nat → Int32)) (t9_0 : Int32) (t9_1 : Int32) (t10_0 : (Nat → Int32)) (t11_0 : Int32) (t11_1 : Int32) (t12_0 : (Nat → Int32)) (t13_0 : Int32) (t13_1 : Int32) (t14_0 : (Nat → Int32)) (t15_0 : Int32) (t15_1 : Int32) (t16_0 : (Nat → Int32)) (t17_0 : Int32) (t17_1 : Int32) (t18_0 : Int32) (t18_1 : Int32) (t19_0 : (Nat → Int32)) (a116 : Int32) (a84 : Int32) (j104 : Int64) (p133 : (Int32 × Int32 × (Nat → Int32))) (p156 : (Int32 × Int32 × (Nat → Int32))) (p185 : (Int32 × Int32 × Int32 × (Nat → Int32))) (a170 : Int32) (y172 : Int32) (y173 : Int32) (f174 : (Nat → Int32)) (p260 : (Int32 × Int32 × (Nat → Int32) × Int32 × Int32 × (Nat → Int32) × Int32 × Int32 × (Nat → Int32) × Int32 × Int32 × (Nat → Int32) × Int32 × Int32 × (Nat → Int32) × Int32 × Int32 × (Nat → Int32))) (y227 : Int32) (y228 : Int32) (f229 : (Nat → Int32)) (y207 : Int32) (y208 : Int32) (f209 : (Nat → Int32)) (y202 : Int32) (y203 : Int32) (f204 : (Nat → Int32)) (y212 : Int32) (y213 : Int32) (f214 : (Nat → Int32)) (y222 : Int32) (y223 : Int32) (f224 : (Nat → Int32)) (p298 : (Int32 × Int32 × (Nat → Int32))) (y288 : Int32) (y289 : Int32) (f290 : (Nat → Int32)) (lx315 : Int32) : Int32 × Int64 × Int32 × Int32 × Int32 × (Nat → Int32) × Int32 × Int32 × (Nat → Int32) × Int32 × Int32 × (Nat → Int32) × Int32 × Int32 × (Nat → Int32) × Int32 × Int32 × (Nat → Int32) × Int32 × Int32 × (Nat → Int32) × Int32 × Int32 × (Nat → Int32) × Int32 × Int32 × (Nat → Int32) := F_DW_squareRoot_c209 R x3 x4 t0_0 t0_1 t1_0 t1_1 t2_0 t3_0 t3_1 t4_0 t5_0 t5_1 t6_0 t7_0 t7_1 t8_0 t9_0 t9_1 t10_0 t11_0 t11_1 t12_0 t13_0 t13_1 t14_0 t15_0 t15_1 t16_0 t17_0 t17_1 t18_0 t18_1 t19_0 a116 a84 j104 p133 p156 p185 a170 y172 y173 f174 p260 y227 y228 f229 y207 y208 f209 y202 y203 f204 y212 y213 f214 y222 y223 f224 p298 y288 y289 f290 lx315 (a170 ||| lx315 : Int32) ((F_Big_copy (220 : Int32) (220 : Int32) y172 y173 f174 y202 y203 f204) : (Int32 × Int32 × (Nat → Int32)))
def F_DW_squareRoot_c158 (R : Int32) (x3 : Int32) (x4 : Int32) (t0_0 : Int64) (t0_1 : Int32) (t1_0 : Int32) (t1_1 : Int32) (t2_0 : (Nat → Int32)) (t3_0 : Int32) (t3_1 : Int32) (t4_0 : (Nat → Int32)) (t5_0 : Int32) (t5_1 : Int32) (t6_0 : (Nat → Int32)) (t7_0 : Int32) (t7_1 : Int32) (t8_0 : (Nat → Int32)) (t9_0 : Int32) (t9_1 : Int32) (t10_0 : (Nat → Int32)) (t11_0 : Int32) (t11_1 : Int32) (t12_0 : (Nat → Int32)) (t13_0 : Int32) (t13_1 : Int32) (t14_0 : (Nat → Int32)) (t15_0 : Int32) (t15_1 : Int32) (t16_0 : (Nat → Int32)) (t17_0 : Int32) (t17_1 : Int32) (t18_0 : Int32) (t18_1 : Int32) (t19_0 : (Nat → Int32)) (a116 : Int32) (a84 : Int32) (j104 : Int64) (p133 : (Int32 × Int32 × (Nat → Int32))) (p156 : (Int32 × Int32 × (Nat → Int32))) (p185 : (Int32 × Int32 × Int32 × (Nat → Int32))) (a170 : Int32) (y172 : Int32) (y173 : Int32) (f174 : (Nat → Int32)) (p260 : (Int32 × Int32 × (Nat → Int32) × Int32 × Int32 × (Nat → Int32) × Int32 × Int32 × (Nat → Int32) × Int32 × Int32 × (Nat → Int32) × Int32 × Int32 × (Nat → Int32) × Int32 × Int32 × (Nat → Int32))) (y227 : Int32) (y228 : Int32) (f229 : (Nat → Int32)) (y207 : Int32) (y208 : Int32) (f209 : (Nat → Int32)) (y202 : Int32) (y203 : Int32) (f204 : (Nat → Int32)) (y212 : Int32) (y213 : Int32) (f214 : (Nat → Int32)) (y222 : Int32) (y223 : Int32) (f224 : (Nat → Int32)) (p298 : (Int32 × Int32 × (Nat → Int32))) : Int32 × Int64 × Int32 × Int32 × Int32 × (Nat → Int32) × Int32 × Int32 × (Nat → Int32) × Int32 × Int32 × (Nat → Int32) × Int32 × Int32 × (Nat → Int32) × Int32 × Int32 × (Nat → Int32) × Int32 × Int32 × (Nat → Int32) × Int32 × Int32 × (Nat → Int32) × Int32 × Int32 × (Nat → Int32) := if ((F_Big_compareSize (220 : Int32) (220 : Int32) (p298.1 : Int32) (p298.2.1 : Int32) (p298.2.2 : (Nat → Int32)) y172 y173 f174) : Int32) = (0 : Int32) then (F_DW_squareRoot_J191 R x3 x4 t0_0 t0_1 t1_0 t1_1 t2_0 t3_0 t3_1 t4_0 t5_0 t5_1 t6_0 t7_0 t7_1 t8_0 t9_0 t9_1 t10_0 t11_0 t11_1 t12_0 t13_0 t13_1 t14_0 t15_0 t15_1 t16_0 t17_0 t17_1 t18_0 t18_1 t19_0 a116 a84 j104 p133 p156 p185 a170 y172 y173 f174 p260 y227 y228 f229 y207 y208 f209 y202 y203 f204 y212 y213 f214 y222 y223 f224 p298 (p298.1 : Int32) (p298.2.1 : Int32) (p298.2.2 : (Nat → Int32)) 0) else (F_DW_squareRoot_J191 R x3 x4 t0_0 t0_1 t1_0 t1_1 t2_0 t3_0 t3_1 t4_0 t5_0 t5_1 t6_0 t7_0 t7_1 t8_0 t9_0 t9_1 t10_0 t11_0 t11_1 t12_0 t13_0 t13_1 t14_0 t15_0 t15_1 t16_0 t17_0 t17_1 t18_0 t18_1 t19_0 a116 a84 j104 p133 p156 p185 a170 y172 y173 f174 p260 y227 y228 f229 y207 y208 f209 y202 y203 f204 y212 y213 f214 y222 y223 f224 p298 (p298.1 : Int32) (p298.2.1 : Int32) (p298.2.2 : (Nat → Int32)) 1)
def F_DW_squareRoot_c134 (R : Int32) (x3 : Int32) (x4 : Int32) (t0_0 : Int64) (t0_1 : Int32) (t1_0 : Int32) (t1_1 : Int32) (t2_0 : (Nat → Int32)) (t3_0 : Int32) (t3_1 : Int32) (t4_0 : (Nat → Int32)) (t5_0 : Int32) (t5_1 : Int32) (t6_0 : (Nat → Int32)) (t7_0 : Int32) (t7_1 : Int32) (t8_0 : (Nat → Int32)) (t9_0 : Int32) (t9_1 : Int32) (t10_0 : (Nat → Int32)) (t11_0 : Int32) (t11_1 : Int32) (t12_0 : (Nat → Int32)) (t13_0 : Int32) (t13_1 : Int32) (t14_0 : (Nat → Int32)) (t15_0 : Int32) (t15_1 : Int32) (t16_0 : (Nat → Int32)) (t17_0 : Int32) (t17_1 : Int32) (t18_0 : Int32) (t18_1 : Int32) (t19_0 : (Nat → Int32)) (a116 : Int32) (a84 : Int32) (j104 : Int64) (p133 : (Int32 × Int32 × (Nat → Int32))) (p156 : (Int32 × Int32 × (Nat → Int32))) (p185 : (Int32 × Int32 × Int32 × (Nat → Int32))) (a170 : Int32) (y172 : Int32) (y173 : Int32) (f174 : (Nat → Int32)) (p260 : (Int32 × Int32 × (Nat → Int32) × Int32 × Int32 × (Nat → Int32) × Int32 × Int32 × (Nat → Int32) × Int32 × Int32 × (Nat → Int32) × Int32 × Int32 × (Nat → Int32) × Int32 × Int32 × (Nat → Int32))) : Int32 × Int64 × Int32 × Int32 × Int32 × (Nat → Int32) × Int32 × Int32 × (Nat → Int32) × Int32 × Int32 × (Nat → Int32) × Int32 × Int32 × (Nat → Int32) × Int32 × Int32 × (Nat → Int32) × Int32 × Int32 × (Nat → Int32) × Int32 × Int32 × (Nat → Int32) × Int32 × Int32 × (Nat → Int32) := F_DW_squareRoot_c158 R x3 x4 t0_0 t0_1 t1_0 t1_1 t2_0 t3_0 t3_1 t4_0 t5_0 t5_1 t6_0 t7_0 t7_1 t8_0 t9_0 t9_1 t10_0 t11_0 t11_1 t12_0 t13_0 t13_1 t14_0 t15_0 t15_1 t16_0 t17_0 t17_1 t18_0 t18_1 t19_0 a116 a84 j104 p133 p156 p185 a170 y172 y173 f174 p260 (p260.2.2.2.2.2.2.2.2.2.2.2.2.2.2.2.1 : Int32) (p260.2.2.2.2.2.2.2.2.2.2.2.2.2.2.2.2.1 : Int32) (p260.2.2.2.2.2.2.2.2.2.2.2.2.2.2.2.2.2 : (Nat → Int32)) (p260.2.2.2.1 : Int32) (p260.2.2.2.2.1 : Int32) (p260.2.2.2.2.2.1 : (Nat → Int32)) (p260.1 : Int32) (p260.2.1 : Int32) (p260.2.2.1 : (Nat → Int32)) (p260.2.2.2.2.2.2.1 : Int32) (p260.2.2.2.2.2.2.2.1 : Int32) (p260.2.2.2.2.2.2.2.2.1 : (Nat → Int32)) (p260.2.2.2.2.2.2.2.2.2.2.2.2.1 : Int32) (p260.2.2.2.2.2.2.2.2.2.2.2.2.2.1 : Int32) (p260.2.2.2.2.2.2.2.2.2.2.2.2.2.2.1 : (Nat → Int32)) ((F_Big_product (220 : Int32) (220 : Int32) (220 : Int32) (p260.2.2.2.2.2.2.2.2.2.1 : Int32) (p260.2.2.2.2.2.2.2.2.2.2.1 : Int32) (p260.2.2.2.2.2.2.2.2.2.2.2.1 : (Nat → Int32)) (p260.1 : Int32) (p260.2.1 : Int32) (p260.2.2.1 : (Nat → Int32)) (p260.1 : Int32) (p260.2.1 : Int32) (p260.2.2.1 : (Nat → Int32))) : (Int32 × Int32 × (Nat → Int32)))
def F_DW_squareRoot_c116 (R : Int32) (x3 : Int32) (x4 : Int32) (t0_0 : Int64) (t0_1 : Int32) (t1_0 : Int32) (t1_1 : Int32) (t2_0 : (Nat → Int32)) (t3_0 : Int32) (t3_1 : Int32) (t4_0 : (Nat → Int32)) (t5_0 : Int32) (t5_1 : Int32) (t6_0 : (Nat → Int32)) (t7_0 : Int32) (t7_1 : Int32) (t8_0 : (Nat → Int32)) (t9_0 : Int32) (t9_1 : Int32) (t10_0 : (Nat → Int32)) (t11_0 : Int32) (t11_1 : Int32) (t12_0 : (Nat → Int32)) (t13_0 : Int32) (t13_1 : Int32) (t14_0 : (Nat → Int32)) (t15_0 : Int32) (t15_1 : Int32) (t16_0 : (Nat → Int32)) (t17_0 : Int32) (t17_1 : Int32) (t18_0 : Int32) (t18_1 : Int32) (t19_0 : (Nat → Int32)) (a116 : Int32) (a84 : Int32) (j104 : Int64) (p133 : (Int32 × Int32 × (Nat → Int32))) (p156 : (Int32 × Int32 × (Nat → Int32))) (p185 : (Int32 × Int32 × Int32 × (Nat → Int32))) : Int32 × Int64 × Int32 × Int32 × Int32 × (Nat → Int32) × Int32 × Int32 × (Nat → Int32) × Int32 × Int32 × (Nat → Int32) × Int32 × Int32 × (Nat → Int32) × Int32 × Int32 × (Nat → Int32) × Int32 × Int32 × (Nat → Int32) × Int32 × Int32 × (Nat → Int32) × Int32 × Int32 × (Nat → Int32) := F_DW_squareRoot_c134 R x3 x4 t0_0 t0_1 t1_0 t1_1 t2_0 t3_0 t3_1 t4_0 t5_0 t5_1 t6_0 t7_0 t7_1 t8_0 t9_0 t9_1 t10_0 t11_0 t11_1 t12_0 t13_0 t13_1 t14_0 t15_0 t15_1 t16_0 t17_0 t17_1 t18_0 t18_1 t19_0 a116 a84 j104 p133 p156 p185 (p185.1 : Int32) (p185.2.1 : Int32) (p185.2.2.1 : Int32) (p185.2.2.2 : (Nat → Int32)) ((F_Mil_root (220 : Int32) (2 : Int32) t7_0 t7_1 t8_0 t5_0 t5_1 t6_0 t9_0 t9_1 t10_0 t11_0 t11_1 t12_0 t13_0 t13_1 t14_0 t3_0 t3_1 t4_0 (p185.2.1 : Int32) (p185.2.2.1 : Int32) (p185.2.2.2 : (Nat → Int32))) : (Int32 × Int32 × (Nat → Int32) × Int32 × Int32 × (Nat → Int32) × Int32 × Int32 × (Nat → Int32) × Int32 × Int32 × (Nat → Int32) × Int32 × Int32 × (Nat → Int32) × Int32 × Int32 × (Nat → Int32)))
def F_DW_squareRoot_c102 (R : Int32) (x3 : Int32) (x4 : Int32) (t0_0 : Int64) (t0_1 : Int32) (t1_0 : Int32) (t1_1 : Int32) (t2_0 : (Nat → Int32)) (t3_0 : Int32) (t3_1 : Int32) (t4_0 : (Nat → Int32)) (t5_0 : Int32) (t5_1 : Int32) (t6_0 : (Nat → Int32)) (t7_0 : Int32) (t7_1 : Int32) (t8_0 : (Nat → Int32)) (t9_0 : Int32) (t9_1 : Int32) (t10_0 : (Nat → Int32)) (t11_0 : Int32) (t11_1 : Int32) (t12_0 : (Nat → Int32)) (t13_0 : Int32) (t13_1 : Int32) (t14_0 : (Nat → Int32)) (t15_0 : Int32) (t15_1 : Int32) (t16_0 : (Nat → Int32)) (t17_0 : Int32) (t17_1 : Int32) (t18_0 : Int32) (t18_1 : Int32) (t19_0 : (Nat → Int32)) (a116 : Int32) (a84 : Int32) (j104 : Int64) (p133 : (Int32 × Int32 × (Nat → Int32))) (p156 : (Int32 × Int32 × (Nat → Int32))) : Int32 × Int64 × Int32 × Int32 × Int32 × (Nat → Int32) × Int32 × Int32 × (Nat → Int32) × Int32 × Int32 × (Nat → Int32) × Int32 × Int32 × (Nat → Int32) × Int32 × Int32 × (Nat → Int32) × Int32 × Int32 × (Nat → Int32) × Int32 × Int32 × (Nat → Int32) × Int32 × Int32 × (Nat → Int32) := F_DW_squareRoot_c116 R x3 x4 t0_0 t0_1 t1_0 t1_1 t2_0 t3_0 t3_1 t4_0 t5_0 t5_1 t6_0 t7_0 t7_1 t8_0 t9_0 t9_1 t10_0 t11_0 t11_1 t12_0 t13_0 t13_1 t14_0 t15_0 t15_1 t16_0 t17_0 t17_1 t18_0 t18_1 t19_0 a116 a84 j104 p133 p156 ((F_Big_dropFigures (220 : Int32) (-a116 : Int32) (p156.1 : Int32) (p156.2.1 : Int32) (p156.2.2 : (Nat → Int32))) : (Int32 × Int32 × Int32 × (Nat → Int32)))
def F_DW_squareRoot_c90 (R : Int32) (x3 : Int32) (x4 : Int32) (t0_0 : Int64) (t0_1 : Int32) (t1_0 : Int32) (t1_1 : Int32) (t2_0 : (Nat → Int32)) (t3_0 : Int32) (t3_1 : Int32) (t4_0 : (Nat → Int32)) (t5_0 : Int32) (t5_1 : Int32) (t6_0 : (Nat → Int32)) (t7_0 : Int32) (t7_1 : Int32) (t8_0 : (Nat → Int32)) (t9_0 : Int32) (t9_1 : Int32) (t10_0 : (Nat → Int32)) (t11_0 : Int32) (t11_1 : Int32) (t12_0 : (Nat → Int32)) (t13_0 : Int32) (t13_1 : Int32) (t14_0 : (Nat → Int32)) (t15_0 : Int32) (t15_1 : Int32) (t16_0 : (Nat → Int32)) (t17_0 : Int32) (t17_1 : Int32) (t18_0 : Int32) (t18_1 : Int32) (t19_0 : (Nat → Int32)) (a116 : Int32) (a84 : Int32) (j104 : Int64) (p133 : (Int32 × Int32 × (Nat → Int32))) : Int32 × Int64 × Int32 × Int32 × Int32 × (Nat → Int32) × Int32 × Int32 × (Nat → Int32) × Int32 × Int32 × (Nat → Int32) × Int32 × Int32 × (Nat → Int32) × Int32 × Int32 × (Nat → Int32) × Int32 × Int32 × (Nat → Int32) × Int32 × Int32 × (Nat → Int32) × Int32 × Int32 × (Nat → Int32) := F_DW_squareRoot_c102 R x3 x4 t0_0 t0_1 t1_0 t1_1 t2_0 t3_0 t3_1 t4_0 t5_0 t5_1 t6_0 t7_0 t7_1 t8_0 t9_0 t9_1 t10_0 t11_0 t11_1 t12_0 t13_0 t13_1 t14_0 t15_0 t15_1 t16_0 t17_0 t17_1 t18_0 t18_1 t19_0 a116 a84 j104 p133 ((F_Big_timesTen (220 : Int32) a116 (p133.1 : Int32) (p133.2.1 : Int32) (p133.2.2 : (Nat → Int32))) : (Int32 × Int32 × (Nat → Int32)))
def F_DW_squareRoot_c27 (R : Int32) (x3 : Int32) (x4 : Int32) (t0_0 : Int64) (t0_1 : Int32) (t1_0 : Int32) (t1_1 : Int32) (t2_0 : (Nat → Int32)) (t3_0 : Int32) (t3_1 : Int32) (t4_0 : (Nat → Int32)) (t5_0 : Int32) (t5_1 : Int32) (t6_0 : (Nat → Int32)) (t7_0 : Int32) (t7_1 : Int32) (t8_0 : (Nat → Int32)) (t9_0 : Int32) (t9_1 : Int32) (t10_0 : (Nat → Int32)) (t11_0 : Int32) (t11_1 : Int32) (t12_0 : (Nat → Int32)) (t13_0 : Int32) (t13_1 : Int32) (t14_0 : (Nat → Int32)) (t15_0 : Int32) (t15_1 : Int32) (t16_0 : (Nat → Int32)) (t17_0 : Int32) (t17_1 : Int32) (t18_0 : Int32) (t18_1 : Int32) (t19_0 : (Nat → Int32)) (a84 : Int32) (p451 : (Int32 × Int32)) : Int32 × Int64 × Int32 × Int32 × Int32 × (Nat → Int32) × Int32 × Int32 × (Nat → Int32) × Int32 × Int32 × (Nat → Int32) × Int32 × Int32 × (Nat → Int32) × Int32 × Int32 × (Nat → Int32) × Int32 × Int32 × (Nat → Int32) × Int32 × Int32 × (Nat → Int32) × Int32 × Int32 × (Nat → Int32) := ((1 : Int32), (a84.toInt64 : Int64), t0_1, (p451.1 : Int32), (p451.2 : Int32), t2_0, t3_0, t3_1, t4_0, t5_0, t5_1, t6_0, t7_0, t7_1, t8_0, t9_0, t9_1, t10_0, t11_0, t11_1, t12_0, t13_0, t13_1, t14_0, t15_0, t15_1, t16_0)
def F_DW_squareRoot (R : Int32) (x3 : Int32) (x4 : Int32) (t0_0 : Int64) (t0_1 : Int32) (t1_0 : Int32) (t1_1 : Int32) (t2_0 : (Nat → Int32)) (t3_0 : Int32) (t3_1 : Int32) (t4_0 : (Nat → Int32)) (t5_0 : Int32) (t5_1 : Int32) (t6_0 : (Nat → Int32)) (t7_0 : Int32) (t7_1 : Int32) (t8_0 : (Nat → Int32)) (t9_0 : Int32) (t9_1 : Int32) (t10_0 : (Nat → Int32)) (t11_0 : Int32) (t11_1 : Int32) (t12_0 : (Nat → Int32)) (t13_0 : Int32) (t13_1 : Int32) (t14_0 : (Nat → Int32)) (t15_0 : Int32) (t15_1 : Int32) (t16_0 : (Nat → Int32)) (t17_0 : Int32) (t17_1 : Int32) (t18_0 : Int32) (t18_1 : Int32) (t19_0 : (Nat → Int32)) : Int32 × Int64 × Int32 × Int32 × Int32 × (Nat → Int32) × Int32 × Int32 × (Nat → Int32) × Int32 × Int32 × (Nat → Int32) × Int32 × Int32 × (Nat → Int32) × Int32 × Int32 × (Nat → Int32) × Int32 × Int32 × (Nat → Int32) × Int32 × Int32 × (Nat → Int32) × Int32 × Int32 × (Nat → Int32) := if t18_0 = (0 : Int32) then (F_DW_squareRoot_c27 R x3 x4 t0_0 t0_1 t1_0 t1_1 t2_0 t3_0 t3_1 t4_0 t5_0 t5_1 t6_0 t7_0 t7_1 t8_0 t9_0 t9_1 t10_0 t11_0 t11_1 t12_0 t13_0 t13_1 t14_0 t15_0 t15_1 t16_0 t17_0 t17_1 t18_0 t18_1 t19_0 ((F_jMath_floorDiv_III t17_0 (2 : Int32)) : Int32) ((F_Big_clear (220 : Int32) t1_0 t1_1) : (Int32 × Int32))) else (F_DW_squareRoot_c90 R x3 x4 t0_0 t0_1 t1_0 t1_1 t2_0 t3_0 t3_1 t4_0 t5_0 t5_1 t6_0 t7_0 t7_1 t8_0 t9_0 t9_1 t10_0 t11_0 t11_1 t12_0 t13_0 t13_1 t14_0 t15_0 t15_1 t16_0 t17_0 t17_1 t18_0 t18_1 t19_0 ((2 * (((((x3 - 1 : Int32) - ((F_jMath_floorDiv_III ((t17_1 - 1 : Int32) - t17_0 : Int32) (2 : Int32)) : Int32) : Int32).toInt64 : Int64).toInt32 : Int32) + 1 : Int32) : Int32) - t17_0 : Int32) ((F_jMath_floorDiv_III t17_0 (2 : Int32)) : Int32) (((x3 - 1 : Int32) - ((F_jMath_floorDiv_III ((t17_1 - 1 : Int32) - t17_0 : Int32) (2 : Int32)) : Int32) : Int32).toInt64 : Int64) ((F_Big_copy (220 : Int32) R t1_0 t1_1 t2_0 t18_0 t18_1 t19_0) : (Int32 × Int32 × (Nat → Int32))))
def S_DW_squareRoot_c219 (R : Int32) (x3 : Int32) (x4 : Int32) (t0_0 : Int64) (t0_1 : Int32) (t1_0 : Int32) (t1_1 : Int32) (t2_0 : (Nat → Int32)) (t3_0 : Int32) (t3_1 : Int32) (t4_0 : (Nat → Int32)) (t5_0 : Int32) (t5_1 : Int32) (t6_0 : (Nat → Int32)) (t7_0 : Int32) (t7_1 : Int32) (t8_0 : (Nat → Int32)) (t9_0 : Int32) (t9_1 : Int32) (t10_0 : (Nat → Int32)) (t11_0 : Int32) (t11_1 : Int32) (t12_0 : (Nat → Int32)) (t13_0 : Int32) (t13_1 : Int32) (t14_0 : (Nat → Int32)) (t15_0 : Int32) (t15_1 : Int32) (t16_0 : (Nat → Int32)) (t17_0 : Int32) (t17_1 : Int32) (t18_0 : Int32) (t18_1 : Int32) (t19_0 : (Nat → Int32)) (a116 : Int32) (a84 : Int32) (j104 : Int64) (p133 : (Int32 × Int32 × (Nat → Int32))) (p156 : (Int32 × Int32 × (Nat → Int32))) (p185 : (Int32 × Int32 × Int32 × (Nat → Int32))) (a170 : Int32) (y172 : Int32) (y173 : Int32) (f174 : (Nat → Int32)) (p260 : (Int32 × Int32 × (Nat → Int32) × Int32 × Int32 × (Nat → Int32) × Int32 × Int32 × (Nat → Int32) × Int32 × Int32 × (Nat → Int32) × Int32 × Int32 × (Nat → Int32) × Int32 × Int32 × (Nat → Int32))) (y227 : Int32) (y228 : Int32) (f229 : (Nat → Int32)) (y207 : Int32) (y208 : Int32) (f209 : (Nat → Int32)) (y202 : Int32) (y203 : Int32) (f204 : (Nat → Int32)) (y212 : Int32) (y213 : Int32) (f214 : (Nat → Int32)) (y222 : Int32) (y223 : Int32) (f224 : (Nat → Int32)) (p298 : (Int32 × Int32 × (Nat → Int32))) (y288 : Int32) (y289 : Int32) (f290 : (Nat → Int32)) (lx315 : Int32) (a344 : Int32) (p363 : (Int32 × Int32 × (Nat → Int32))) (p416 : (Int32 × Int64 × Int32 × Int32 × Int32 × (Nat → Int32) × Int32 × Int32 × (Nat → Int32) × Int32 × Int32 × (Nat → Int32))) : Prop := True
def S_DW_squareRoot_c209 (R : Int32) (x3 : Int32) (x4 : Int32) (t0_0 : Int64) (t0_1 : Int32) (t1_0 : Int32) (t1_1 : Int32) (t2_0 : (Nat → Int32)) (t3_0 : Int32) (t3_1 : Int32) (t4_0 : (Nat → Int32)) (t5_0 : Int32) (t5_1 : Int32) (t6_0 : (Nat → Int32)) (t7_0 : Int32) (t7_1 : Int32) (t8_0 : (Nat → Int32)) (t9_0 : Int32) (t9_1 : Int32) (t10_0 : (Nat → Int32)) (t11_0 : Int32) (t11_1 : Int32) (t12_0 : (Nat → Int32)) (t13_0 : Int32) (t13_1 : Int32) (t14_0 : (Nat → Int32)) (t15_0 : Int32) (t15_1 : Int32) (t16_0 : (Nat → Int32)) (t17_0 : Int32) (t17_1 : Int32) (t18_0 : Int32) (t18_1 : Int32) (t19_0 : (Nat → Int32)) (a116 : Int32) (a84 : Int32) (j104 : Int64) (p133 : (Int32 × Int32 × (Nat → Int32))) (p156 : (Int32 × Int32 × (Nat → Int32))) (p185 : (Int32 × Int32 × Int32 × (Nat → Int32))) (a170 : Int32) (y172 : Int32) (y173 : Int32) (f174 : (Nat → Int32)) (p260 : (Int32 × Int32 × (Nat → Int32) × Int32 × Int32 × (Nat → Int32) × Int32 × Int32 × (Nat → Int32) × Int32 × Int32 × (Nat → Int32) × Int32 × Int32 × (Nat → Int32) × Int32 × Int32 × (Nat → Int32))) (y227 : Int32) (y228 : Int32) (f229 : (Nat → Int32)) (y207 : Int32) (y208 : Int32) (f209 : (Nat → Int32)) (y202 : Int32) (y203 : Int32) (f204 : (Nat → Int32)) (y212 : Int32) (y213 : Int32) (f214 : (Nat → Int32)) (y222 : Int32) (y223 : Int32) (f224 : (Nat → Int32)) (p298 : (Int32 × Int32 × (Nat → Int32))) (y288 : Int32) (y289 : Int32) (f290 : (Nat → Int32)) (lx315 : Int32) (a344 : Int32) (p363 : (Int32 × Int32 × (Nat → Int32))) : Prop := S_DW_squareRoot_c219 R x3 x4 t0_0 t0_1 t1_0 t1_1 t2_0 t3_0 t3_1 t4_0 t5_0 t5_1 t6_0 t7_0 t7_1 t8_0 t9_0 t9_1 t10_0 t11_0 t11_1 t12_0 t13_0 t13_1 t14_0 t15_0 t15_1 t16_0 t17_0 t17_1 t18_0 t18_1 t19_0 a116 a84 j104 p133 p156 p185 a170 y172 y173 f174 p260 y227 y228 f229 y207 y208 f209 y202 y203 f204 y212 y213 f214 y222 y223 f224 p298 y288 y289 f290 lx315 a344 p363 ((F_DW_shorten (0 : Int32) x3 (a84.toInt64 : Int64) x4 j104 a344 (p363.1 : Int32) (p363.2.1 : Int32) (p363.2.2 : (Nat → Int32)) y288 y289 f290 t15_0 t15_1 t16_0) : (Int32 × Int64 × Int32 × Int32 × Int32 × (Nat → Int32) × Int32 × Int32 × (Nat → Int32) × Int32 × Int32 × (Nat → Int32)))
def S_DW_squareRoot_J191 (R : Int32) (x3 : Int32) (x4 : Int32) (t0_0 : Int64) (t0_1 : Int32) (t1_0 : Int32) (t1_1 : Int32) (t2_0 : (Nat → Int32)) (t3_0 : Int32) (t3_1 : Int32) (t4_0 : (Nat → Int32)) (t5_0 : Int32) (t5_1 : Int32) (t6_0 : (Nat → Int32)) (t7_0 : Int32) (t7_1 : Int32) (t8_0 : (Nat → Int32)) (t9_0 : Int32) (t9_1 : Int32) (t10_0 : (Nat → Int32)) (t11_0 : Int32) (t11_1 : Int32) (t12_0 : (Nat → Int32)) (t13_0 : Int32) (t13_1 : Int32) (t14_0 : (Nat → Int32)) (t15_0 : Int32) (t15_1 : Int32) (t16_0 : (Nat → Int32)) (t17_0 : Int32) (t17_1 : Int32) (t18_0 : Int32) (t18_1 : Int32) (t19_0 : (Nat → Int32)) (a116 : Int32) (a84 : Int32) (j104 : Int64) (p133 : (Int32 × Int32 × (Nat → Int32))) (p156 : (Int32 × Int32 × (Nat → Int32))) (p185 : (Int32 × Int32 × Int32 × (Nat → Int32))) (a170 : Int32) (y172 : Int32) (y173 : Int32) (f174 : (Nat → Int32)) (p260 : (Int32 × Int32 × (Nat → Int32) × Int32 × Int32 × (Nat → Int32) × Int32 × Int32 × (Nat → Int32) × Int32 × Int32 × (Nat → Int32) × Int32 × Int32 × (Nat → Int32) × Int32 × Int32 × (Nat → Int32))) (y227 : Int32) (y228 : Int32) (f229 : (Nat → Int32)) (y207 : Int32) (y208 : Int32) (f209 : (Nat → Int32)) (y202 : Int32) (y203 : Int32) (f204 : (Nat → Int32)) (y212 : Int32) (y213 : Int32) (f214 : (Nat → Int32)) (y222 : Int32) (y223 : Int32) (f224 : (Nat → Int32)) (p298 : (Int32 × Int32 × (Nat → Int32))) (y288 : Int32) (y289 : Int32) (f290 : (Nat → Int32)) (lx315 : Int32) : Prop := S_DW_squareRoot_c209 R x3 x4 t0_0 t0_1 t1_0 t1_1 t2_0 t3_0 t3_1 t4_0 t5_0 t5_1 t6_0 t7_0 t7_1 t8_0 t9_0 t9_1 t10_0 t11_0 t11_1 t12_0 t13_0 t13_1 t14_0 t15_0 t15_1 t16_0 t17_0 t17_1 t18_0 t18_1 t19_0 a116 a84 j104 p133 p156 p185 a170 y172 y173 f174 p260 y227 y228 f229 y207 y208 f209 y202 y203 f204 y212 y213 f214 y222 y223 f224 p298 y288 y289 f290 lx315 (a170 ||| lx315 : Int32) ((F_Big_copy (220 : Int32) (220 : Int32) y172 y173 f174 y202 y203 f204) : (Int32 × Int32 × (Nat → Int32)))
def S_DW_squareRoot_c158 (R : Int32) (x3 : Int32) (x4 : Int32) (t0_0 : Int64) (t0_1 : Int32) (t1_0 : Int32) (t1_1 : Int32) (t2_0 : (Nat → Int32)) (t3_0 : Int32) (t3_1 : Int32) (t4_0 : (Nat → Int32)) (t5_0 : Int32) (t5_1 : Int32) (t6_0 : (Nat → Int32)) (t7_0 : Int32) (t7_1 : Int32) (t8_0 : (Nat → Int32)) (t9_0 : Int32) (t9_1 : Int32) (t10_0 : (Nat → Int32)) (t11_0 : Int32) (t11_1 : Int32) (t12_0 : (Nat → Int32)) (t13_0 : Int32) (t13_1 : Int32) (t14_0 : (Nat → Int32)) (t15_0 : Int32) (t15_1 : Int32) (t16_0 : (Nat → Int32)) (t17_0 : Int32) (t17_1 : Int32) (t18_0 : Int32) (t18_1 : Int32) (t19_0 : (Nat → Int32)) (a116 : Int32) (a84 : Int32) (j104 : Int64) (p133 : (Int32 × Int32 × (Nat → Int32))) (p156 : (Int32 × Int32 × (Nat → Int32))) (p185 : (Int32 × Int32 × Int32 × (Nat → Int32))) (a170 : Int32) (y172 : Int32) (y173 : Int32) (f174 : (Nat → Int32)) (p260 : (Int32 × Int32 × (Nat → Int32) × Int32 × Int32 × (Nat → Int32) × Int32 × Int32 × (Nat → Int32) × Int32 × Int32 × (Nat → Int32) × Int32 × Int32 × (Nat → Int32) × Int32 × Int32 × (Nat → Int32))) (y227 : Int32) (y228 : Int32) (f229 : (Nat → Int32)) (y207 : Int32) (y208 : Int32) (f209 : (Nat → Int32)) (y202 : Int32) (y203 : Int32) (f204 : (Nat → Int32)) (y212 : Int32) (y213 : Int32) (f214 : (Nat → Int32)) (y222 : Int32) (y223 : Int32) (f224 : (Nat → Int32)) (p298 : (Int32 × Int32 × (Nat → Int32))) : Prop := if ((F_Big_compareSize (220 : Int32) (220 : Int32) (p298.1 : Int32) (p298.2.1 : Int32) (p298.2.2 : (Nat → Int32)) y172 y173 f174) : Int32) = (0 : Int32) then (S_DW_squareRoot_J191 R x3 x4 t0_0 t0_1 t1_0 t1_1 t2_0 t3_0 t3_1 t4_0 t5_0 t5_1 t6_0 t7_0 t7_1 t8_0 t9_0 t9_1 t10_0 t11_0 t11_1 t12_0 t13_0 t13_1 t14_0 t15_0 t15_1 t16_0 t17_0 t17_1 t18_0 t18_1 t19_0 a116 a84 j104 p133 p156 p185 a170 y172 y173 f174 p260 y227 y228 f229 y207 y208 f209 y202 y203 f204 y212 y213 f214 y222 y223 f224 p298 (p298.1 : Int32) (p298.2.1 : Int32) (p298.2.2 : (Nat → Int32)) 0) else (S_DW_squareRoot_J191 R x3 x4 t0_0 t0_1 t1_0 t1_1 t2_0 t3_0 t3_1 t4_0 t5_0 t5_1 t6_0 t7_0 t7_1 t8_0 t9_0 t9_1 t10_0 t11_0 t11_1 t12_0 t13_0 t13_1 t14_0 t15_0 t15_1 t16_0 t17_0 t17_1 t18_0 t18_1 t19_0 a116 a84 j104 p133 p156 p185 a170 y172 y173 f174 p260 y227 y228 f229 y207 y208 f209 y202 y203 f204 y212 y213 f214 y222 y223 f224 p298 (p298.1 : Int32) (p298.2.1 : Int32) (p298.2.2 : (Nat → Int32)) 1)
def S_DW_squareRoot_c134 (R : Int32) (x3 : Int32) (x4 : Int32) (t0_0 : Int64) (t0_1 : Int32) (t1_0 : Int32) (t1_1 : Int32) (t2_0 : (Nat → Int32)) (t3_0 : Int32) (t3_1 : Int32) (t4_0 : (Nat → Int32)) (t5_0 : Int32) (t5_1 : Int32) (t6_0 : (Nat → Int32)) (t7_0 : Int32) (t7_1 : Int32) (t8_0 : (Nat → Int32)) (t9_0 : Int32) (t9_1 : Int32) (t10_0 : (Nat → Int32)) (t11_0 : Int32) (t11_1 : Int32) (t12_0 : (Nat → Int32)) (t13_0 : Int32) (t13_1 : Int32) (t14_0 : (Nat → Int32)) (t15_0 : Int32) (t15_1 : Int32) (t16_0 : (Nat → Int32)) (t17_0 : Int32) (t17_1 : Int32) (t18_0 : Int32) (t18_1 : Int32) (t19_0 : (Nat → Int32)) (a116 : Int32) (a84 : Int32) (j104 : Int64) (p133 : (Int32 × Int32 × (Nat → Int32))) (p156 : (Int32 × Int32 × (Nat → Int32))) (p185 : (Int32 × Int32 × Int32 × (Nat → Int32))) (a170 : Int32) (y172 : Int32) (y173 : Int32) (f174 : (Nat → Int32)) (p260 : (Int32 × Int32 × (Nat → Int32) × Int32 × Int32 × (Nat → Int32) × Int32 × Int32 × (Nat → Int32) × Int32 × Int32 × (Nat → Int32) × Int32 × Int32 × (Nat → Int32) × Int32 × Int32 × (Nat → Int32))) : Prop := S_DW_squareRoot_c158 R x3 x4 t0_0 t0_1 t1_0 t1_1 t2_0 t3_0 t3_1 t4_0 t5_0 t5_1 t6_0 t7_0 t7_1 t8_0 t9_0 t9_1 t10_0 t11_0 t11_1 t12_0 t13_0 t13_1 t14_0 t15_0 t15_1 t16_0 t17_0 t17_1 t18_0 t18_1 t19_0 a116 a84 j104 p133 p156 p185 a170 y172 y173 f174 p260 (p260.2.2.2.2.2.2.2.2.2.2.2.2.2.2.2.1 : Int32) (p260.2.2.2.2.2.2.2.2.2.2.2.2.2.2.2.2.1 : Int32) (p260.2.2.2.2.2.2.2.2.2.2.2.2.2.2.2.2.2 : (Nat → Int32)) (p260.2.2.2.1 : Int32) (p260.2.2.2.2.1 : Int32) (p260.2.2.2.2.2.1 : (Nat → Int32)) (p260.1 : Int32) (p260.2.1 : Int32) (p260.2.2.1 : (Nat → Int32)) (p260.2.2.2.2.2.2.1 : Int32) (p260.2.2.2.2.2.2.2.1 : Int32) (p260.2.2.2.2.2.2.2.2.1 : (Nat → Int32)) (p260.2.2.2.2.2.2.2.2.2.2.2.2.1 : Int32) (p260.2.2.2.2.2.2.2.2.2.2.2.2.2.1 : Int32) (p260.2.2.2.2.2.2.2.2.2.2.2.2.2.2.1 : (Nat → Int32)) ((F_Big_product (220 : Int32) (220 : Int32) (220 : Int32) (p260.2.2.2.2.2.2.2.2.2.1 : Int32) (p260.2.2.2.2.2.2.2.2.2.2.1 : Int32) (p260.2.2.2.2.2.2.2.2.2.2.2.1 : (Nat → Int32)) (p260.1 : Int32) (p260.2.1 : Int32) (p260.2.2.1 : (Nat → Int32)) (p260.1 : Int32) (p260.2.1 : Int32) (p260.2.2.1 : (Nat → Int32))) : (Int32 × Int32 × (Nat → Int32)))
def S_DW_squareRoot_c116 (R : Int32) (x3 : Int32) (x4 : Int32) (t0_0 : Int64) (t0_1 : Int32) (t1_0 : Int32) (t1_1 : Int32) (t2_0 : (Nat → Int32)) (t3_0 : Int32) (t3_1 : Int32) (t4_0 : (Nat → Int32)) (t5_0 : Int32) (t5_1 : Int32) (t6_0 : (Nat → Int32)) (t7_0 : Int32) (t7_1 : Int32) (t8_0 : (Nat → Int32)) (t9_0 : Int32) (t9_1 : Int32) (t10_0 : (Nat → Int32)) (t11_0 : Int32) (t11_1 : Int32) (t12_0 : (Nat → Int32)) (t13_0 : Int32) (t13_1 : Int32) (t14_0 : (Nat → Int32)) (t15_0 : Int32) (t15_1 : Int32) (t16_0 : (Nat → Int32)) (t17_0 : Int32) (t17_1 : Int32) (t18_0 : Int32) (t18_1 : Int32) (t19_0 : (Nat → Int32)) (a116 : Int32) (a84 : Int32) (j104 : Int64) (p133 : (Int32 × Int32 × (Nat → Int32))) (p156 : (Int32 × Int32 × (Nat → Int32))) (p185 : (Int32 × Int32 × Int32 × (Nat → Int32))) : Prop := (True ∧ S_Mil_root (220 : Int32) (2 : Int32) t7_0 t7_1 t8_0 t5_0 t5_1 t6_0 t9_0 t9_1 t10_0 t11_0 t11_1 t12_0 t13_0 t13_1 t14_0 t3_0 t3_1 t4_0 (p185.2.1 : Int32) (p185.2.2.1 : Int32) (p185.2.2.2 : (Nat → Int32))) ∧ (S_DW_squareRoot_c134 R x3 x4 t0_0 t0_1 t1_0 t1_1 t2_0 t3_0 t3_1 t4_0 t5_0 t5_1 t6_0 t7_0 t7_1 t8_0 t9_0 t9_1 t10_0 t11_0 t11_1 t12_0 t13_0 t13_1 t14_0 t15_0 t15_1 t16_0 t17_0 t17_1 t18_0 t18_1 t19_0 a116 a84 j104 p133 p156 p185 (p185.1 : Int32) (p185.2.1 : Int32) (p185.2.2.1 : Int32) (p185.2.2.2 : (Nat → Int32)) ((F_Mil_root (220 : Int32) (2 : Int32) t7_0 t7_1 t8_0 t5_0 t5_1 t6_0 t9_0 t9_1 t10_0 t11_0 t11_1 t12_0 t13_0 t13_1 t14_0 t3_0 t3_1 t4_0 (p185.2.1 : Int32) (p185.2.2.1 : Int32) (p185.2.2.2 : (Nat → Int32))) : (Int32 × Int32 × (Nat → Int32) × Int32 × Int32 × (Nat → Int32) × Int32 × Int32 × (Nat → Int32) × Int32 × Int32 × (Nat → Int32) × Int32 × Int32 × (Nat → Int32) × Int32 × Int32 × (Nat → Int32))))
def S_DW_squareRoot_c102 (R : Int32) (x3 : Int32) (x4 : Int32) (t0_0 : Int64) (t0_1 : Int32) (t1_0 : Int32) (t1_1 : Int32) (t2_0 : (Nat → Int32)) (t3_0 : Int32) (t3_1 : Int32) (t4_0 : (Nat → Int32)) (t5_0 : Int32) (t5_1 : Int32) (t6_0 : (Nat → Int32)) (t7_0 : Int32) (t7_1 : Int32) (t8_0 : (Nat → Int32)) (t9_0 : Int32) (t9_1 : Int32) (t10_0 : (Nat → Int32)) (t11_0 : Int32) (t11_1 : Int32) (t12_0 : (Nat → Int32)) (t13_0 : Int32) (t13_1 : Int32) (t14_0 : (Nat → Int32)) (t15_0 : Int32) (t15_1 : Int32) (t16_0 : (Nat → Int32)) (t17_0 : Int32) (t17_1 : Int32) (t18_0 : Int32) (t18_1 : Int32) (t19_0 : (Nat → Int32)) (a116 : Int32) (a84 : Int32) (j104 : Int64) (p133 : (Int32 × Int32 × (Nat → Int32))) (p156 : (Int32 × Int32 × (Nat → Int32))) : Prop := S_DW_squareRoot_c116 R x3 x4 t0_0 t0_1 t1_0 t1_1 t2_0 t3_0 t3_1 t4_0 t5_0 t5_1 t6_0 t7_0 t7_1 t8_0 t9_0 t9_1 t10_0 t11_0 t11_1 t12_0 t13_0 t13_1 t14_0 t15_0 t15_1 t16_0 t17_0 t17_1 t18_0 t18_1 t19_0 a116 a84 j104 p133 p156 ((F_Big_dropFigures (220 : Int32) (-a116 : Int32) (p156.1 : Int32) (p156.2.1 : Int32) (p156.2.2 : (Nat → Int32))) : (Int32 × Int32 × Int32 × (Nat → Int32)))
def S_DW_squareRoot_c90 (R : Int32) (x3 : Int32) (x4 : Int32) (t0_0 : Int64) (t0_1 : Int32) (t1_0 : Int32) (t1_1 : Int32) (t2_0 : (Nat → Int32)) (t3_0 : Int32) (t3_1 : Int32) (t4_0 : (Nat → Int32)) (t5_0 : Int32) (t5_1 : Int32) (t6_0 : (Nat → Int32)) (t7_0 : Int32) (t7_1 : Int32) (t8_0 : (Nat → Int32)) (t9_0 : Int32) (t9_1 : Int32) (t10_0 : (Nat → Int32)) (t11_0 : Int32) (t11_1 : Int32) (t12_0 : (Nat → Int32)) (t13_0 : Int32) (t13_1 : Int32) (t14_0 : (Nat → Int32)) (t15_0 : Int32) (t15_1 : Int32) (t16_0 : (Nat → Int32)) (t17_0 : Int32) (t17_1 : Int32) (t18_0 : Int32) (t18_1 : Int32) (t19_0 : (Nat → Int32)) (a116 : Int32) (a84 : Int32) (j104 : Int64) (p133 : (Int32 × Int32 × (Nat → Int32))) : Prop := S_DW_squareRoot_c102 R x3 x4 t0_0 t0_1 t1_0 t1_1 t2_0 t3_0 t3_1 t4_0 t5_0 t5_1 t6_0 t7_0 t7_1 t8_0 t9_0 t9_1 t10_0 t11_0 t11_1 t12_0 t13_0 t13_1 t14_0 t15_0 t15_1 t16_0 t17_0 t17_1 t18_0 t18_1 t19_0 a116 a84 j104 p133 ((F_Big_timesTen (220 : Int32) a116 (p133.1 : Int32) (p133.2.1 : Int32) (p133.2.2 : (Nat → Int32))) : (Int32 × Int32 × (Nat → Int32)))
def S_DW_squareRoot_c27 (R : Int32) (x3 : Int32) (x4 : Int32) (t0_0 : Int64) (t0_1 : Int32) (t1_0 : Int32) (t1_1 : Int32) (t2_0 : (Nat → Int32)) (t3_0 : Int32) (t3_1 : Int32) (t4_0 : (Nat → Int32)) (t5_0 : Int32) (t5_1 : Int32) (t6_0 : (Nat → Int32)) (t7_0 : Int32) (t7_1 : Int32) (t8_0 : (Nat → Int32)) (t9_0 : Int32) (t9_1 : Int32) (t10_0 : (Nat → Int32)) (t11_0 : Int32) (t11_1 : Int32) (t12_0 : (Nat → Int32)) (t13_0 : Int32) (t13_1 : Int32) (t14_0 : (Nat → Int32)) (t15_0 : Int32) (t15_1 : Int32) (t16_0 : (Nat → Int32)) (t17_0 : Int32) (t17_1 : Int32) (t18_0 : Int32) (t18_1 : Int32) (t19_0 : (Nat → Int32)) (a84 : Int32) (p451 : (Int32 × Int32)) : Prop := True
def S_DW_squareRoot (R : Int32) (x3 : Int32) (x4 : Int32) (t0_0 : Int64) (t0_1 : Int32) (t1_0 : Int32) (t1_1 : Int32) (t2_0 : (Nat → Int32)) (t3_0 : Int32) (t3_1 : Int32) (t4_0 : (Nat → Int32)) (t5_0 : Int32) (t5_1 : Int32) (t6_0 : (Nat → Int32)) (t7_0 : Int32) (t7_1 : Int32) (t8_0 : (Nat → Int32)) (t9_0 : Int32) (t9_1 : Int32) (t10_0 : (Nat → Int32)) (t11_0 : Int32) (t11_1 : Int32) (t12_0 : (Nat → Int32)) (t13_0 : Int32) (t13_1 : Int32) (t14_0 : (Nat → Int32)) (t15_0 : Int32) (t15_1 : Int32) (t16_0 : (Nat → Int32)) (t17_0 : Int32) (t17_1 : Int32) (t18_0 : Int32) (t18_1 : Int32) (t19_0 : (Nat → Int32)) : Prop := if t18_0 = (0 : Int32) then (S_DW_squareRoot_c27 R x3 x4 t0_0 t0_1 t1_0 t1_1 t2_0 t3_0 t3_1 t4_0 t5_0 t5_1 t6_0 t7_0 t7_1 t8_0 t9_0 t9_1 t10_0 t11_0 t11_1 t12_0 t13_0 t13_1 t14_0 t15_0 t15_1 t16_0 t17_0 t17_1 t18_0 t18_1 t19_0 ((F_jMath_floorDiv_III t17_0 (2 : Int32)) : Int32) ((F_Big_clear (220 : Int32) t1_0 t1_1) : (Int32 × Int32))) else (S_DW_squareRoot_c90 R x3 x4 t0_0 t0_1 t1_0 t1_1 t2_0 t3_0 t3_1 t4_0 t5_0 t5_1 t6_0 t7_0 t7_1 t8_0 t9_0 t9_1 t10_0 t11_0 t11_1 t12_0 t13_0 t13_1 t14_0 t15_0 t15_1 t16_0 t17_0 t17_1 t18_0 t18_1 t19_0 ((2 * (((((x3 - 1 : Int32) - ((F_jMath_floorDiv_III ((t17_1 - 1 : Int32) - t17_0 : Int32) (2 : Int32)) : Int32) : Int32).toInt64 : Int64).toInt32 : Int32) + 1 : Int32) : Int32) - t17_0 : Int32) ((F_jMath_floorDiv_III t17_0 (2 : Int32)) : Int32) (((x3 - 1 : Int32) - ((F_jMath_floorDiv_III ((t17_1 - 1 : Int32) - t17_0 : Int32) (2 : Int32)) : Int32) : Int32).toInt64 : Int64) ((F_Big_copy (220 : Int32) R t1_0 t1_1 t2_0 t18_0 t18_1 t19_0) : (Int32 × Int32 × (Nat → Int32))))
set_option maxRecDepth 100000 in
set_option maxHeartbeats 4000000 in
theorem X_DW_squareRoot (l : Launch) (D : va_G) (g : Nat → ClassId) (q : Nat → Nat) (ws : va_W) (k2 : Nat) (R : Int32) (hB2 : q_isDec (nsh g q) g q k2 R) (zk2 : (10 ≤ k2 ∧ k2 ≤ 31) ∨ 66 ≤ k2) (x3 : Int32) (x4 : Int32) (ne_k2_10 : k2 ≠ 10) (ne_k2_11 : k2 ≠ 11) (ne_k2_9 : k2 ≠ 9) (ne_k2_8 : k2 ≠ 8) (ne_k2_12 : k2 ≠ 12) (ne_k2_13 : k2 ≠ 13) (ne_k2_14 : k2 ≠ 14) (ne_k2_15 : k2 ≠ 15) (ne_k2_16 : k2 ≠ 16) (ne_k2_17 : k2 ≠ 17) (ne_k2_18 : k2 ≠ 18) (ne_k2_19 : k2 ≠ 19) (ne_k2_22 : k2 ≠ 22) (ne_k2_23 : k2 ≠ 23) (ne_k2_21 : k2 ≠ 21) (ne_k2_20 : k2 ≠ 20) (ne_k2_24 : k2 ≠ 24) (ne_k2_25 : k2 ≠ 25) (ne_k2_30 : k2 ≠ 30) (ne_k2_31 : k2 ≠ 31) (ne_k2_29 : k2 ≠ 29) (ne_k2_28 : k2 ≠ 28) (hI : q_I (nsh g q) q ws) (t0_0 : Int64) (t0_1 : Int32) (hT0 : ws[30]? = (some (q 30, .inr (5, [.ref (q 31), .long t0_0, .ref (q 9), .int t0_1])) : Option (Nat × va_E))) (t1_0 : Int32) (t1_1 : Int32) (hT1 : ws[10]? = (some (q 10, .inr (2, [.ref (q 11), .int t1_0, .int t1_1])) : Option (Nat × va_E))) (t2_0 : (Nat → Int32)) (hT2 : ws[11]? = (some (q 11, .inl (g 0, (220 : Int32).toNatClampNeg, .inl t2_0)) : Option (Nat × va_E))) (t3_0 : Int32) (t3_1 : Int32) (hT3 : ws[12]? = (some (q 12, .inr (2, [.ref (q 13), .int t3_0, .int t3_1])) : Option (Nat × va_E))) (t4_0 : (Nat → Int32)) (hT4 : ws[13]? = (some (q 13, .inl (g 0, (220 : Int32).toNatClampNeg, .inl t4_0)) : Option (Nat × va_E))) (t5_0 : Int32) (t5_1 : Int32) (hT5 : ws[14]? = (some (q 14, .inr (2, [.ref (q 15), .int t5_0, .int t5_1])) : Option (Nat × va_E))) (t6_0 : (Nat → Int32)) (hT6 : ws[15]? = (some (q 15, .inl (g 0, (220 : Int32).toNatClampNeg, .inl t6_0)) : Option (Nat × va_E))) (t7_0 : Int32) (t7_1 : Int32) (hT7 : ws[16]? = (some (q 16, .inr (2, [.ref (q 17), .int t7_0, .int t7_1])) : Option (Nat × va_E))) (t8_0 : (Nat → Int32)) (hT8 : ws[17]? = (some (q 17, .inl (g 0, (220 : Int32).toNatClampNeg, .inl t8_0)) : Option (Nat × va_E))) (t9_0 : Int32) (t9_1 : Int32) (hT9 : ws[18]? = (some (q 18, .inr (2, [.ref (q 19), .int t9_0, .int t9_1])) : Option (Nat × va_E))) (t10_0 : (Nat → Int32)) (hT10 : ws[19]? = (some (q 19, .inl (g 0, (220 : Int32).toNatClampNeg, .inl t10_0)) : Option (Nat × va_E))) (t11_0 : Int32) (t11_1 : Int32) (hT11 : ws[22]? = (some (q 22, .inr (2, [.ref (q 23), .int t11_0, .int t11_1])) : Option (Nat × va_E))) (t12_0 : (Nat → Int32)) (hT12 : ws[23]? = (some (q 23, .inl (g 0, (220 : Int32).toNatClampNeg, .inl t12_0)) : Option (Nat × va_E))) (t13_0 : Int32) (t13_1 : Int32) (hT13 : ws[24]? = (some (q 24, .inr (2, [.ref (q 25), .int t13_0, .int t13_1])) : Option (Nat × va_E))) (t14_0 : (Nat → Int32)) (hT14 : ws[25]? = (some (q 25, .inl (g 0, (220 : Int32).toNatClampNeg, .inl t14_0)) : Option (Nat × va_E))) (t15_0 : Int32) (t15_1 : Int32) (hT15 : ws[20]? = (some (q 20, .inr (2, [.ref (q 21), .int t15_0, .int t15_1])) : Option (Nat × va_E))) (t16_0 : (Nat → Int32)) (hT16 : ws[21]? = (some (q 21, .inl (g 0, (220 : Int32).toNatClampNeg, .inl t16_0)) : Option (Nat × va_E))) (t17_0 : Int32) (t17_1 : Int32) (hT17 : ws[k2]? = (some (q k2, .inr (3, [.ref (q (k2 + 1)), .int t17_0, .int t17_1])) : Option (Nat × va_E))) (t18_0 : Int32) (t18_1 : Int32) (hT18 : ws[k2 + 1]? = (some (q (k2 + 1), .inr (2, [.ref (q (k2 + 2)), .int t18_0, .int t18_1])) : Option (Nat × va_E))) (t19_0 : (Nat → Int32)) (hT19 : ws[k2 + 2]? = (some (q (k2 + 2), .inl (g 0, R.toNatClampNeg, .inl t19_0)) : Option (Nat × va_E))) (hS : True ∧ S_DW_squareRoot R x3 x4 t0_0 t0_1 t1_0 t1_1 t2_0 t3_0 t3_1 t4_0 t5_0 t5_1 t6_0 t7_0 t7_1 t8_0 t9_0 t9_1 t10_0 t11_0 t11_1 t12_0 t13_0 t13_1 t14_0 t15_0 t15_1 t16_0 t17_0 t17_1 t18_0 t18_1 t19_0) : q_mI l y_DW_squareRoot prog_4_method_13_code 6 (.boolean) 6 0 0 D g [.ref (q 30), .ref (q k2), .int x3, .int x4] ws (fun r u => q_I (nsh g q) q u ∧ q_un ws u [10, 11, 12, 13, 14, 15, 16, 17, 18, 19, 20, 21, 22, 23, 24, 25, 30] ∧ ∃ (u0_0 : Int64) (u0_1 : Int32) (u1_0 : Int32) (u1_1 : Int32) (u2_0 : (Nat → Int32)) (u3_0 : Int32) (u3_1 : Int32) (u4_0 : (Nat → Int32)) (u5_0 : Int32) (u5_1 : Int32) (u6_0 : (Nat → Int32)) (u7_0 : Int32) (u7_1 : Int32) (u8_0 : (Nat → Int32)) (u9_0 : Int32) (u9_1 : Int32) (u10_0 : (Nat → Int32)) (u11_0 : Int32) (u11_1 : Int32) (u12_0 : (Nat → Int32)) (u13_0 : Int32) (u13_1 : Int32) (u14_0 : (Nat → Int32)) (u15_0 : Int32) (u15_1 : Int32) (u16_0 : (Nat → Int32)), u[30]? = (some (q 30, .inr (5, [.ref (q 31), .long u0_0, .ref (q 9), .int u0_1])) : Option (Nat × va_E)) ∧ u[10]? = (some (q 10, .inr (2, [.ref (q 11), .int u1_0, .int u1_1])) : Option (Nat × va_E)) ∧ u[11]? = (some (q 11, .inl (g 0, (220 : Int32).toNatClampNeg, .inl u2_0)) : Option (Nat × va_E)) ∧ u[12]? = (some (q 12, .inr (2, [.ref (q 13), .int u3_0, .int u3_1])) : Option (Nat × va_E)) ∧ u[13]? = (some (q 13, .inl (g 0, (220 : Int32).toNatClampNeg, .inl u4_0)) : Option (Nat × va_E)) ∧ u[14]? = (some (q 14, .inr (2, [.ref (q 15), .int u5_0, .int u5_1])) : Option (Nat × va_E)) ∧ u[15]? = (some (q 15, .inl (g 0, (220 : Int32).toNatClampNeg, .inl u6_0)) : Option (Nat × va_E)) ∧ u[16]? = (some (q 16, .inr (2, [.ref (q 17), .int u7_0, .int u7_1])) : Option (Nat × va_E)) ∧ u[17]? = (some (q 17, .inl (g 0, (220 : Int32).toNatClampNeg, .inl u8_0)) : Option (Nat × va_E)) ∧ u[18]? = (some (q 18, .inr (2, [.ref (q 19), .int u9_0, .int u9_1])) : Option (Nat × va_E)) ∧ u[19]? = (some (q 19, .inl (g 0, (220 : Int32).toNatClampNeg, .inl u10_0)) : Option (Nat × va_E)) ∧ u[22]? = (some (q 22, .inr (2, [.ref (q 23), .int u11_0, .int u11_1])) : Option (Nat × va_E)) ∧ u[23]? = (some (q 23, .inl (g 0, (220 : Int32).toNatClampNeg, .inl u12_0)) : Option (Nat × va_E)) ∧ u[24]? = (some (q 24, .inr (2, [.ref (q 25), .int u13_0, .int u13_1])) : Option (Nat × va_E)) ∧ u[25]? = (some (q 25, .inl (g 0, (220 : Int32).toNatClampNeg, .inl u14_0)) : Option (Nat × va_E)) ∧ u[20]? = (some (q 20, .inr (2, [.ref (q 21), .int u15_0, .int u15_1])) : Option (Nat × va_E)) ∧ u[21]? = (some (q 21, .inl (g 0, (220 : Int32).toNatClampNeg, .inl u16_0)) : Option (Nat × va_E)) ∧ (0 ≤ r.toInt) ∧ (r.toInt ≤ 1) ∧ (0 ≤ u0_1.toInt) ∧ (u0_1.toInt ≤ 1) ∧ (0 ≤ u1_0.toInt) ∧ (u1_0.toInt ≤ 220) ∧ (0 ≤ u1_1.toInt) ∧ (u1_1.toInt ≤ 1) ∧ (0 ≤ u3_0.toInt) ∧ (u3_0.toInt ≤ 220) ∧ (0 ≤ u3_1.toInt) ∧ (u3_1.toInt ≤ 1) ∧ (0 ≤ u5_0.toInt) ∧ (u5_0.toInt ≤ 220) ∧ (0 ≤ u5_1.toInt) ∧ (u5_1.toInt ≤ 1) ∧ (0 ≤ u7_0.toInt) ∧ (u7_0.toInt ≤ 220) ∧ (0 ≤ u7_1.toInt) ∧ (u7_1.toInt ≤ 1) ∧ (0 ≤ u9_0.toInt) ∧ (u9_0.toInt ≤ 220) ∧ (0 ≤ u9_1.toInt) ∧ (u9_1.toInt ≤ 1) ∧ (0 ≤ u11_0.toInt) ∧ (u11_0.toInt ≤ 220) ∧ (0 ≤ u11_1.toInt) ∧ (u11_1.toInt ≤ 1) ∧ (0 ≤ u13_0.toInt) ∧ (u13_0.toInt ≤ 220) ∧ (0 ≤ u13_1.toInt) ∧ (u13_1.toInt ≤ 220) ∧ (0 ≤ u15_0.toInt) ∧ (u15_0.toInt ≤ 220) ∧ (0 ≤ u15_1.toInt) ∧ (u15_1.toInt ≤ 1) ∧ (u1_0.toInt ≤ t18_0.toInt + 219) ∧ (u1_1.toInt ≤ t18_0.toInt) ∧ (u3_1.toInt ≤ t3_1.toInt) ∧ (u13_1.toInt ≤ t18_0.toInt + 219) ∧ (r, u0_0, u0_1, u1_0, u1_1, u2_0, u3_0, u3_1, u4_0, u5_0, u5_1, u6_0, u7_0, u7_1, u8_0, u9_0, u9_1, u10_0, u11_0, u11_1, u12_0, u13_0, u13_1, u14_0, u15_0, u15_1, u16_0) = (F_DW_squareRoot R x3 x4 t0_0 t0_1 t1_0 t1_1 t2_0 t3_0 t3_1 t4_0 t5_0 t5_1 t6_0 t7_0 t7_1 t8_0 t9_0 t9_1 t10_0 t11_0 t11_1 t12_0 t13_0 t13_1 t14_0 t15_0 t15_1 t16_0 t17_0 t17_1 t18_0 t18_1 t19_0)) := by
  intro sz
  refine q_into (by decide) (Nat.le_of_ble_eq_true rfl) ?_
  intro p e s m below meth c ls hsz C0 V hl
  have hx := C0.1
  have hb := C0.2.1
  have btt0_1 := n_w30 hI hT0
  replace btt0_1 : q_F (0 ≤ t0_1.toInt ∧ t0_1.toInt ≤ 1) := btt0_1
  have btt1_1 := (q_bigW hI (n_b10 g q) hT1).2
  clear btt1_1
  obtain ⟨btt3_0, btt3_1⟩ := q_bigW hI (n_b12 g q) hT3
  replace btt3_0 : q_F (0 ≤ t3_0.toInt ∧ t3_0.toInt ≤ 220) := btt3_0
  replace btt3_1 : q_F (0 ≤ t3_1.toInt ∧ t3_1.toInt ≤ 1) := btt3_1
  obtain ⟨btt5_0, btt5_1⟩ := q_bigW hI (n_b14 g q) hT5
  replace btt5_0 : q_F (0 ≤ t5_0.toInt ∧ t5_0.toInt ≤ 220) := btt5_0
  replace btt5_1 : q_F (0 ≤ t5_1.toInt ∧ t5_1.toInt ≤ 1) := btt5_1
  obtain ⟨btt7_0, btt7_1⟩ := q_bigW hI (n_b16 g q) hT7
  replace btt7_0 : q_F (0 ≤ t7_0.toInt ∧ t7_0.toInt ≤ 220) := btt7_0
  replace btt7_1 : q_F (0 ≤ t7_1.toInt ∧ t7_1.toInt ≤ 1) := btt7_1
  obtain ⟨btt9_0, btt9_1⟩ := q_bigW hI (n_b18 g q) hT9
  replace btt9_0 : q_F (0 ≤ t9_0.toInt ∧ t9_0.toInt ≤ 220) := btt9_0
  replace btt9_1 : q_F (0 ≤ t9_1.toInt ∧ t9_1.toInt ≤ 1) := btt9_1
  obtain ⟨btt11_0, btt11_1⟩ := q_bigW hI (n_b22 g q) hT11
  replace btt11_0 : q_F (0 ≤ t11_0.toInt ∧ t11_0.toInt ≤ 220) := btt11_0
  replace btt11_1 : q_F (0 ≤ t11_1.toInt ∧ t11_1.toInt ≤ 1) := btt11_1
  obtain ⟨btt13_0, btt13_1⟩ := q_bigW hI (n_b24 g q) hT13
  replace btt13_0 : q_F (0 ≤ t13_0.toInt ∧ t13_0.toInt ≤ 220) := btt13_0
  replace btt13_1 : q_F (0 ≤ t13_1.toInt ∧ t13_1.toInt ≤ 1) := btt13_1
  obtain ⟨btt15_0, btt15_1⟩ := q_bigW hI (n_b20 g q) hT15
  replace btt15_0 : q_F (0 ≤ t15_0.toInt ∧ t15_0.toInt ≤ 220) := btt15_0
  replace btt15_1 : q_F (0 ≤ t15_1.toInt ∧ t15_1.toInt ≤ 1) := btt15_1
  have btt17_1 := (n_deW hI hB2 hT17).2
  clear btt17_1
  have btt18_0 := (q_bigW hI hB2.2 hT18).1
  replace btt18_0 : q_F (0 ≤ t18_0.toInt ∧ t18_0.toInt ≤ R.toInt) := btt18_0
  have hF : q_un ws ws [10, 11, 12, 13, 14, 15, 16, 17, 18, 19, 20, 21, 22, 23, 24, 25, 30] := q_u0
  have hl : lv_has ls 6 [(0, .ref (q 30)), (1, .ref (q k2)), (2, .int x3), (3, .int x4)] := hl
  refine lv_aload_n hx hb d_4_13_0 rfl (lv_at hl 1 rfl) ?_
  refine q_get (ci := 3) (j := 1) (v := .int t17_0) C0 V i_Dec rfl rfl hT17 (by decide) w_176 rfl d_4_13_1 ?_
  refine lv_iconst (v := 2) hx hb d_4_13_4 (by decide) ?_
  refine q_goi V (q_runS (As := [.int t17_0, .int 2]) (rest := []) (d := 1) (mc := 0) (ms := 0) C0 V rfl LS_DW_157 (X_jMath_floorDiv_III l D g q ws  t17_0 2 hI  (by have y0 : (2 : Int32).toInt = 2 := rfl; omega) _) rfl hl.1 rfl (Nat.le_of_ble_eq_true rfl) ⟨by decide, by decide⟩ ⟨Nat.le_of_ble_eq_true rfl, Nat.le_of_ble_eq_true rfl⟩ d_4_13_5) (fun a84 u82 H locs hp83 V => ?_)
  obtain ⟨rfl, hE85⟩ := hp83
  have e86 : a84 = (F_jMath_floorDiv_III t17_0 (2 : Int32)) := hE85
  refine lv_istore (lv' := [(4, .int a84), (0, .ref (q 30)), (1, .ref (q k2)), (2, .int x3), (3, .int x4)]) hx hb d_4_13_8 hl (by decide) rfl (fun ls hl => ?_)
  refine lv_aload_n hx hb d_4_13_10 rfl (lv_at hl 2 rfl) ?_
  refine q_get (ci := 3) (j := 0) (v := .ref (q (k2 + 1))) C0 V i_Dec rfl rfl hT17 (by decide) w_171 rfl d_4_13_11 ?_
  refine q_get (ci := 2) (j := 1) (v := .int t18_0) C0 V i_Big rfl rfl hT18 (by decide) w_90 rfl d_4_13_14 ?_
  refine lv_if_ne (tgt := 39) hx hb d_4_13_17 (by decide) (fun c87 => ?_) (fun c87 => ?_)
  ·
    have b88 : q_F (t18_0.toInt ≠ 0) := (q_neI c87)
    refine lv_aload_n hx hb d_4_13_39 rfl (lv_at hl 1 rfl) ?_
    refine lv_iload_n hx hb d_4_13_40 rfl (lv_at hl 3 rfl) ?_
    refine lv_iconst (v := 1) hx hb d_4_13_41 (by decide) ?_
    refine lv_isub hx hb d_4_13_42 ?_
    obtain ⟨a89, e90⟩ := q_nm (x3 - 1 : Int32)
    refine q_ti (v := a89) e90 ?_
    refine lv_aload_n hx hb d_4_13_43 rfl (lv_at hl 2 rfl) ?_
    refine q_get (ci := 3) (j := 2) (v := .int t17_1) C0 V i_Dec rfl rfl hT17 (by decide) w_180 rfl d_4_13_44 ?_
    refine lv_iconst (v := 1) hx hb d_4_13_47 (by decide) ?_
    refine lv_isub hx hb d_4_13_48 ?_
    obtain ⟨a91, e92⟩ := q_nm (t17_1 - 1 : Int32)
    refine q_ti (v := a91) e92 ?_
    refine lv_aload_n hx hb d_4_13_49 rfl (lv_at hl 2 rfl) ?_
    refine q_get (ci := 3) (j := 1) (v := .int t17_0) C0 V i_Dec rfl rfl hT17 (by decide) w_176 rfl d_4_13_50 ?_
    refine lv_isub hx hb d_4_13_53 ?_
    obtain ⟨a94, e95⟩ := q_nm (a91 - t17_0 : Int32)
    refine q_ti (v := a94) e95 ?_
    refine lv_iconst (v := 2) hx hb d_4_13_54 (by decide) ?_
    refine q_goi V (q_runS (As := [.int a94, .int 2]) (rest := [.int a89, .ref (q 30)]) (d := 1) (mc := 0) (ms := 0) C0 V rfl LS_DW_157 (X_jMath_floorDiv_III l D g q ws  a94 2 hI  (by have y0 : (2 : Int32).toInt = 2 := rfl; omega) _) rfl hl.1 rfl (Nat.le_of_ble_eq_true rfl) ⟨by decide, by decide⟩ ⟨Nat.le_of_ble_eq_true rfl, Nat.le_of_ble_eq_true rfl⟩ d_4_13_55) (fun a99 u97 H locs hp98 V => ?_)
    obtain ⟨rfl, hE100⟩ := hp98
    have e101 : a99 = (F_jMath_floorDiv_III a94 (2 : Int32)) := hE100
    refine lv_isub hx hb d_4_13_58 ?_
    obtain ⟨a102, e103⟩ := q_nm (a89 - a99 : Int32)
    refine q_ti (v := a102) e103 ?_
    refine lv_i2l hx hb d_4_13_59 rfl ?_
    obtain ⟨j104, e105⟩ := q_nm (a102.toInt64 : Int64)
    refine q_tl (v := j104) e105 ?_
    refine q_put (ci := 5) (j := 1) (v := .long j104) (ty := .long) C0 V i_DW o_DW n_DW rfl rfl hT0 (by decide) w_212 rfl rfl rfl rfl (Nat.le_of_ble_eq_true rfl) d_4_13_60 (fun H locs w107 hu108 hT0 V => ?_)
    replace hT0 : w107[30]? = (some (q 30, .inr (5, [.ref (q 31), .long j104, .ref (q 9), .int t0_1])) : Option (Nat × va_E)) := hT0
    replace hI := n_p30 hI hu108 hT0 (by first | with_reducible exact q_fe btt0_1 | exact ⟨(by have t1 : 0 ≤ t0_1.toInt ∧ t0_1.toInt ≤ 1 := btt0_1; omega), (by have t1 : 0 ≤ t0_1.toInt ∧ t0_1.toInt ≤ 1 := btt0_1; omega)⟩)
    replace hT1 := (hu108 _ (by decide)).trans hT1
    replace hT2 := (hu108 _ (by decide)).trans hT2
    replace hT3 := (hu108 _ (by decide)).trans hT3
    replace hT4 := (hu108 _ (by decide)).trans hT4
    replace hT5 := (hu108 _ (by decide)).trans hT5
    replace hT6 := (hu108 _ (by decide)).trans hT6
    replace hT7 := (hu108 _ (by decide)).trans hT7
    replace hT8 := (hu108 _ (by decide)).trans hT8
    replace hT9 := (hu108 _ (by decide)).trans hT9
    replace hT10 := (hu108 _ (by decide)).trans hT10
    replace hT11 := (hu108 _ (by decide)).trans hT11
    replace hT12 := (hu108 _ (by decide)).trans hT12
    replace hT13 := (hu108 _ (by decide)).trans hT13
    replace hT14 := (hu108 _ (by decide)).trans hT14
    replace hT15 := (hu108 _ (by decide)).trans hT15
    replace hT16 := (hu108 _ (by decide)).trans hT16
    replace hT17 := (hu108 _ (by have z := ne_k2_30; omega)).trans hT17
    replace hT18 := (hu108 _ (by have z := ne_k2_29; omega)).trans hT18
    replace hT19 := (hu108 _ (by have z := ne_k2_28; omega)).trans hT19
    replace hF := q_us hF hu108 (by simp)
    refine lv_iconst (v := 2) hx hb d_4_13_63 (by decide) ?_
    refine lv_aload_n hx hb d_4_13_64 rfl (lv_at hl 1 rfl) ?_
    refine q_get (ci := 5) (j := 1) (v := .long j104) C0 V i_DW rfl rfl hT0 (by decide) w_212 rfl d_4_13_65 ?_
    refine lv_l2i hx hb d_4_13_68 rfl ?_
    obtain ⟨a109, e110⟩ := q_nm (j104.toInt32 : Int32)
    refine q_ti (v := a109) e110 ?_
    refine lv_iconst (v := 1) hx hb d_4_13_69 (by decide) ?_
    refine lv_iadd hx hb d_4_13_70 ?_
    obtain ⟨a112, e113⟩ := q_nm (a109 + 1 : Int32)
    refine q_ti (v := a112) e113 ?_
    refine lv_imul hx hb d_4_13_71 ?_
    obtain ⟨a114, e115⟩ := q_nm (2 * a112 : Int32)
    refine q_ti (v := a114) e115 ?_
    refine lv_aload_n hx hb d_4_13_72 rfl (lv_at hl 2 rfl) ?_
    refine q_get (ci := 3) (j := 1) (v := .int t17_0) C0 V i_Dec rfl rfl hT17 (by decide) w_176 rfl d_4_13_73 ?_
    refine lv_isub hx hb d_4_13_76 ?_
    obtain ⟨a116, e117⟩ := q_nm (a114 - t17_0 : Int32)
    refine q_ti (v := a116) e117 ?_
    refine lv_istore (lv' := [(5, .int a116), (4, .int a84), (0, .ref (q 30)), (1, .ref (q k2)), (2, .int x3), (3, .int x4)]) hx hb d_4_13_77 hl (by decide) rfl (fun ls hl => ?_)
    refine lv_aload_n hx hb d_4_13_79 rfl (lv_at hl 2 rfl) ?_
    refine q_get (ci := 5) (j := 2) (v := .ref (q 9)) C0 V i_DW rfl rfl hT0 (by decide) w_214 rfl d_4_13_80 ?_
    have hO118 := n_o9 hI
    refine q_get (ci := 4) (j := 0) (v := .ref (q 10)) C0 V i_Mil rfl rfl hO118 (by decide) w_111 rfl d_4_13_83 ?_
    refine lv_aload_n hx hb d_4_13_86 rfl (lv_at hl 3 rfl) ?_
    refine q_get (ci := 3) (j := 0) (v := .ref (q (k2 + 1))) C0 V i_Dec rfl rfl hT17 (by decide) w_171 rfl d_4_13_87 ?_
    refine q_gov V (q_runV (As := [.ref (q (k2 + 1))]) (rest := []) (d := 2) (mc := 0) (ms := 0) (ci := 2) C0 V rfl LV_DW_44 (X_Big_copy l D g q w107 10 220 (n_b10 g q) (by decide) (k2 + 1) R hB2.2 (by have z := zk2; omega)  (by have z := ne_k2_9; omega) hI t1_0 t1_1 hT1 t2_0 hT2 t18_0 t18_1 hT18 t19_0 hT19  _) rfl rfl hT1 rfl hl.1 rfl (Nat.le_of_ble_eq_true rfl) ⟨by decide, by decide⟩ ⟨Nat.le_of_ble_eq_true rfl, Nat.le_of_ble_eq_true rfl⟩ d_4_13_90) (fun u119 H locs hp120 V => ?_)
    obtain ⟨hI, hZ9⟩ := hp120
    obtain ⟨hu132, hZ9⟩ := hZ9
    obtain ⟨y122, hZ9⟩ := hZ9
    obtain ⟨y123, hZ9⟩ := hZ9
    obtain ⟨f124, hZ9⟩ := hZ9
    obtain ⟨hO121, hZ9⟩ := hZ9
    obtain ⟨hA125, hZ9⟩ := hZ9
    replace hZ9 := hZ9.2.2.2.2
    obtain ⟨-, hE131⟩ := hZ9
    replace hO121 : u119[10]? = (some (q 10, .inr (2, [.ref (q 11), .int y122, .int y123])) : Option (Nat × va_E)) := hO121
    replace hA125 : u119[11]? = (some (q 11, .inl (g 0, (220 : Int32).toNatClampNeg, .inl f124)) : Option (Nat × va_E)) := hA125
    obtain ⟨p133, e134⟩ : ∃ z, z = (F_Big_copy (220 : Int32) R t1_0 t1_1 t2_0 t18_0 t18_1 t19_0) := ⟨_, rfl⟩
    have e135 : y122 = p133.1 := congrArg (fun z => z.1) (hE131.trans e134.symm)
    have e136 : y123 = p133.2.1 := congrArg (fun z => z.2.1) (hE131.trans e134.symm)
    have e137 : f124 = p133.2.2 := congrArg (fun z => z.2.2) (hE131.trans e134.symm)
    replace hT0 := (hu132 _ (by decide)).trans hT0
    replace hT3 := (hu132 _ (by decide)).trans hT3
    replace hT4 := (hu132 _ (by decide)).trans hT4
    replace hT5 := (hu132 _ (by decide)).trans hT5
    replace hT6 := (hu132 _ (by decide)).trans hT6
    replace hT7 := (hu132 _ (by decide)).trans hT7
    replace hT8 := (hu132 _ (by decide)).trans hT8
    replace hT9 := (hu132 _ (by decide)).trans hT9
    replace hT10 := (hu132 _ (by decide)).trans hT10
    replace hT11 := (hu132 _ (by decide)).trans hT11
    replace hT12 := (hu132 _ (by decide)).trans hT12
    replace hT13 := (hu132 _ (by decide)).trans hT13
    replace hT14 := (hu132 _ (by decide)).trans hT14
    replace hT15 := (hu132 _ (by decide)).trans hT15
    replace hT16 := (hu132 _ (by decide)).trans hT16
    replace hO118 := (hu132 _ (by decide)).trans hO118
    replace hF := q_uc hF hu132 (by first | exact (q_sk (q_mi 0 rfl) (q_sk (q_mi 1 rfl) q_s0)) | simp)
    have hR138 := (show F_DW_squareRoot_c90 R x3 x4 t0_0 t0_1 t1_0 t1_1 t2_0 t3_0 t3_1 t4_0 t5_0 t5_1 t6_0 t7_0 t7_1 t8_0 t9_0 t9_1 t10_0 t11_0 t11_1 t12_0 t13_0 t13_1 t14_0 t15_0 t15_1 t16_0 t17_0 t17_1 t18_0 t18_1 t19_0 a116 a84 j104 p133 = (F_DW_squareRoot R x3 x4 t0_0 t0_1 t1_0 t1_1 t2_0 t3_0 t3_1 t4_0 t5_0 t5_1 t6_0 t7_0 t7_1 t8_0 t9_0 t9_1 t10_0 t11_0 t11_1 t12_0 t13_0 t13_1 t14_0 t15_0 t15_1 t16_0 t17_0 t17_1 t18_0 t18_1 t19_0) from (by rw [e134, ← e117, ← e115, ← e113, ← e110, ← e105, ← e103, e101, ← e95, ← e92, ← e90, e86, F_DW_squareRoot.eq_1, if_neg c87]))
    have hS139 := (show True ∧ S_DW_squareRoot_c90 R x3 x4 t0_0 t0_1 t1_0 t1_1 t2_0 t3_0 t3_1 t4_0 t5_0 t5_1 t6_0 t7_0 t7_1 t8_0 t9_0 t9_1 t10_0 t11_0 t11_1 t12_0 t13_0 t13_1 t14_0 t15_0 t15_1 t16_0 t17_0 t17_1 t18_0 t18_1 t19_0 a116 a84 j104 p133 from (by rw [e134, ← e117, ← e115, ← e113, ← e110, ← e105, ← e103, e101, ← e95, ← e92, ← e90, e86]; have h := hS; rw [S_DW_squareRoot.eq_1] at h; rw [if_neg c87] at h; with_reducible exact h))
    refine lv_aload_n hx hb d_4_13_93 rfl (lv_at hl 2 rfl) ?_
    refine q_get (ci := 5) (j := 2) (v := .ref (q 9)) C0 V i_DW rfl rfl hT0 (by decide) w_214 rfl d_4_13_94 ?_
    refine q_get (ci := 4) (j := 0) (v := .ref (q 10)) C0 V i_Mil rfl rfl hO118 (by decide) w_111 rfl d_4_13_97 ?_
    refine lv_iload hx hb d_4_13_100 (lv_at hl 0 rfl) ?_
    refine q_gov V (q_runV (As := [.int a116]) (rest := []) (d := 2) (mc := 0) (ms := 0) (ci := 2) C0 V rfl LV_DW_77 (X_Big_timesTen l D g q u119 10 220 (n_b10 g q) (by decide) a116 hI y122 y123 hO121 f124 hA125  _) rfl rfl hO121 rfl hl.1 rfl (Nat.le_of_ble_eq_true rfl) ⟨by decide, by decide⟩ ⟨Nat.le_of_ble_eq_true rfl, Nat.le_of_ble_eq_true rfl⟩ d_4_13_102) (fun u143 H locs hp144 V => ?_)
    obtain ⟨hI, hZ9⟩ := hp144
    obtain ⟨hu155, hZ9⟩ := hZ9
    obtain ⟨y146, hZ9⟩ := hZ9
    obtain ⟨y147, hZ9⟩ := hZ9
    obtain ⟨f148, hZ9⟩ := hZ9
    obtain ⟨hO145, hZ9⟩ := hZ9
    obtain ⟨hA149, hZ9⟩ := hZ9
    replace hZ9 := hZ9.2.2.2
    obtain ⟨-, hE154⟩ := hZ9
    replace hO145 : u143[10]? = (some (q 10, .inr (2, [.ref (q 11), .int y146, .int y147])) : Option (Nat × va_E)) := hO145
    replace hA149 : u143[11]? = (some (q 11, .inl (g 0, (220 : Int32).toNatClampNeg, .inl f148)) : Option (Nat × va_E)) := hA149
    obtain ⟨p156, e157⟩ : ∃ z, z = (F_Big_timesTen (220 : Int32) a116 y122 y123 f124) := ⟨_, rfl⟩
    have e158 : y146 = p156.1 := congrArg (fun z => z.1) (hE154.trans e157.symm)
    have e159 : y147 = p156.2.1 := congrArg (fun z => z.2.1) (hE154.trans e157.symm)
    have e160 : f148 = p156.2.2 := congrArg (fun z => z.2.2) (hE154.trans e157.symm)
    replace hT0 := (hu155 _ (by decide)).trans hT0
    replace hT3 := (hu155 _ (by decide)).trans hT3
    replace hT4 := (hu155 _ (by decide)).trans hT4
    replace hT5 := (hu155 _ (by decide)).trans hT5
    replace hT6 := (hu155 _ (by decide)).trans hT6
    replace hT7 := (hu155 _ (by decide)).trans hT7
    replace hT8 := (hu155 _ (by decide)).trans hT8
    replace hT9 := (hu155 _ (by decide)).trans hT9
    replace hT10 := (hu155 _ (by decide)).trans hT10
    replace hT11 := (hu155 _ (by decide)).trans hT11
    replace hT12 := (hu155 _ (by decide)).trans hT12
    replace hT13 := (hu155 _ (by decide)).trans hT13
    replace hT14 := (hu155 _ (by decide)).trans hT14
    replace hT15 := (hu155 _ (by decide)).trans hT15
    replace hT16 := (hu155 _ (by decide)).trans hT16
    replace hO118 := (hu155 _ (by decide)).trans hO118
    replace hF := q_uc hF hu155 (by first | exact (q_sk (q_mi 0 rfl) (q_sk (q_mi 1 rfl) q_s0)) | simp)
    have hR161 := (show F_DW_squareRoot_c102 R x3 x4 t0_0 t0_1 t1_0 t1_1 t2_0 t3_0 t3_1 t4_0 t5_0 t5_1 t6_0 t7_0 t7_1 t8_0 t9_0 t9_1 t10_0 t11_0 t11_1 t12_0 t13_0 t13_1 t14_0 t15_0 t15_1 t16_0 t17_0 t17_1 t18_0 t18_1 t19_0 a116 a84 j104 p133 p156 = (F_DW_squareRoot R x3 x4 t0_0 t0_1 t1_0 t1_1 t2_0 t3_0 t3_1 t4_0 t5_0 t5_1 t6_0 t7_0 t7_1 t8_0 t9_0 t9_1 t10_0 t11_0 t11_1 t12_0 t13_0 t13_1 t14_0 t15_0 t15_1 t16_0 t17_0 t17_1 t18_0 t18_1 t19_0) from Eq.trans (by rw [e157, e137, e136, e135, F_DW_squareRoot_c90.eq_1]) hR138)
    have hS162 := (show True ∧ S_DW_squareRoot_c102 R x3 x4 t0_0 t0_1 t1_0 t1_1 t2_0 t3_0 t3_1 t4_0 t5_0 t5_1 t6_0 t7_0 t7_1 t8_0 t9_0 t9_1 t10_0 t11_0 t11_1 t12_0 t13_0 t13_1 t14_0 t15_0 t15_1 t16_0 t17_0 t17_1 t18_0 t18_1 t19_0 a116 a84 j104 p133 p156 from (by rw [e157, e137, e136, e135]; have h := hS139; rw [S_DW_squareRoot_c90.eq_1] at h; with_reducible exact h))
    refine lv_aload_n hx hb d_4_13_105 rfl (lv_at hl 2 rfl) ?_
    refine lv_aload_n hx hb d_4_13_106 rfl (lv_at hl 2 rfl) ?_
    refine q_get (ci := 5) (j := 2) (v := .ref (q 9)) C0 V i_DW rfl rfl hT0 (by decide) w_214 rfl d_4_13_107 ?_
    refine q_get (ci := 4) (j := 0) (v := .ref (q 10)) C0 V i_Mil rfl rfl hO118 (by decide) w_111 rfl d_4_13_110 ?_
    refine lv_iload hx hb d_4_13_113 (lv_at hl 0 rfl) ?_
    refine lv_ineg hx hb d_4_13_115 ?_
    obtain ⟨a166, e167⟩ := q_nm (-a116 : Int32)
    refine q_ti (v := a166) e167 ?_
    refine q_goi V (q_runV (As := [.int a166]) (rest := [.ref (q 30)]) (d := 3) (mc := 0) (ms := 0) (ci := 2) C0 V rfl LV_DW_149 (X_Big_dropFigures l D g q u143 10 220 (n_b10 g q) (by decide) a166 hI y146 y147 hO145 f148 hA149  _) rfl rfl hO145 rfl hl.1 rfl (Nat.le_of_ble_eq_true rfl) ⟨by decide, by decide⟩ ⟨Nat.le_of_ble_eq_true rfl, Nat.le_of_ble_eq_true rfl⟩ d_4_13_116) (fun a170 u168 H locs hp169 V => ?_)
    obtain ⟨hI, hZ9⟩ := hp169
    obtain ⟨hu184, hZ9⟩ := hZ9
    obtain ⟨y172, hZ9⟩ := hZ9
    obtain ⟨y173, hZ9⟩ := hZ9
    obtain ⟨f174, hZ9⟩ := hZ9
    obtain ⟨hO171, hZ9⟩ := hZ9
    obtain ⟨hA175, hZ9⟩ := hZ9
    obtain ⟨b176, hZ9⟩ := hZ9
    obtain ⟨b177, hZ9⟩ := hZ9
    replace hZ9 := hZ9.2.2.2.2
    obtain ⟨-, hE183⟩ := hZ9
    replace hO171 : u168[10]? = (some (q 10, .inr (2, [.ref (q 11), .int y172, .int y173])) : Option (Nat × va_E)) := hO171
    replace hA175 : u168[11]? = (some (q 11, .inl (g 0, (220 : Int32).toNatClampNeg, .inl f174)) : Option (Nat × va_E)) := hA175
    obtain ⟨p185, e186⟩ : ∃ z, z = (F_Big_dropFigures (220 : Int32) a166 y146 y147 f148) := ⟨_, rfl⟩
    have e187 : a170 = p185.1 := congrArg (fun z => z.1) (hE183.trans e186.symm)
    have e188 : y172 = p185.2.1 := congrArg (fun z => z.2.1) (hE183.trans e186.symm)
    have e189 : y173 = p185.2.2.1 := congrArg (fun z => z.2.2.1) (hE183.trans e186.symm)
    have e190 : f174 = p185.2.2.2 := congrArg (fun z => z.2.2.2) (hE183.trans e186.symm)
    replace b176 : q_F (0 ≤ a170.toInt) := b176
    replace b177 : q_F (a170.toInt ≤ 1) := b177
    replace hT0 := (hu184 _ (by decide)).trans hT0
    replace hT3 := (hu184 _ (by decide)).trans hT3
    replace hT4 := (hu184 _ (by decide)).trans hT4
    replace hT5 := (hu184 _ (by decide)).trans hT5
    replace hT6 := (hu184 _ (by decide)).trans hT6
    replace hT7 := (hu184 _ (by decide)).trans hT7
    replace hT8 := (hu184 _ (by decide)).trans hT8
    replace hT9 := (hu184 _ (by decide)).trans hT9
    replace hT10 := (hu184 _ (by decide)).trans hT10
    replace hT11 := (hu184 _ (by decide)).trans hT11
    replace hT12 := (hu184 _ (by decide)).trans hT12
    replace hT13 := (hu184 _ (by decide)).trans hT13
    replace hT14 := (hu184 _ (by decide)).trans hT14
    replace hT15 := (hu184 _ (by decide)).trans hT15
    replace hT16 := (hu184 _ (by decide)).trans hT16
    replace hO118 := (hu184 _ (by decide)).trans hO118
    replace hF := q_uc hF hu184 (by first | exact (q_sk (q_mi 0 rfl) (q_sk (q_mi 1 rfl) q_s0)) | simp)
    have hR191 := (show F_DW_squareRoot_c116 R x3 x4 t0_0 t0_1 t1_0 t1_1 t2_0 t3_0 t3_1 t4_0 t5_0 t5_1 t6_0 t7_0 t7_1 t8_0 t9_0 t9_1 t10_0 t11_0 t11_1 t12_0 t13_0 t13_1 t14_0 t15_0 t15_1 t16_0 t17_0 t17_1 t18_0 t18_1 t19_0 a116 a84 j104 p133 p156 p185 = (F_DW_squareRoot R x3 x4 t0_0 t0_1 t1_0 t1_1 t2_0 t3_0 t3_1 t4_0 t5_0 t5_1 t6_0 t7_0 t7_1 t8_0 t9_0 t9_1 t10_0 t11_0 t11_1 t12_0 t13_0 t13_1 t14_0 t15_0 t15_1 t16_0 t17_0 t17_1 t18_0 t18_1 t19_0) from Eq.trans (by rw [e186, ← e167, e160, e159, e158, F_DW_squareRoot_c102.eq_1]) hR161)
    have hS192 := (show True ∧ S_DW_squareRoot_c116 R x3 x4 t0_0 t0_1 t1_0 t1_1 t2_0 t3_0 t3_1 t4_0 t5_0 t5_1 t6_0 t7_0 t7_1 t8_0 t9_0 t9_1 t10_0 t11_0 t11_1 t12_0 t13_0 t13_1 t14_0 t15_0 t15_1 t16_0 t17_0 t17_1 t18_0 t18_1 t19_0 a116 a84 j104 p133 p156 p185 from (by rw [e186, ← e167, e160, e159, e158]; have h := hS162; rw [S_DW_squareRoot_c102.eq_1] at h; with_reducible exact h))
    refine q_put (ci := 5) (j := 3) (v := .int a170) (ty := .boolean) C0 V i_DW o_DW n_DW rfl rfl hT0 (by decide) w_215 rfl rfl (q_nz01 (q_Ile (x := 0) (y := a170.toInt) (by decide) rfl (by first | with_reducible exact q_fe b176 | (have t1 : 0 ≤ a170.toInt := b176; omega))) (q_Ile (x := a170.toInt) (y := 1) rfl (by decide) (by first | with_reducible exact q_fe b177 | (have t1 : a170.toInt ≤ 1 := b177; omega)))) (q_fz01 (q_Ile (x := 0) (y := a170.toInt) (by decide) rfl (by first | with_reducible exact q_fe b176 | (have t1 : 0 ≤ a170.toInt := b176; omega))) (q_Ile (x := a170.toInt) (y := 1) rfl (by decide) (by first | with_reducible exact q_fe b177 | (have t1 : a170.toInt ≤ 1 := b177; omega)))) (Nat.le_of_ble_eq_true rfl) d_4_13_119 (fun H locs w196 hu197 hT0 V => ?_)
    replace hT0 : w196[30]? = (some (q 30, .inr (5, [.ref (q 31), .long j104, .ref (q 9), .int a170])) : Option (Nat × va_E)) := hT0
    replace hI := n_p30 hI hu197 hT0 ⟨(by first | with_reducible exact q_fe b176 | (have t1 : 0 ≤ a170.toInt := b176; omega)), (by first | with_reducible exact q_fe b177 | (have t1 : a170.toInt ≤ 1 := b177; omega))⟩
    replace hO171 := (hu197 _ (by decide)).trans hO171
    replace hA175 := (hu197 _ (by decide)).trans hA175
    replace hT3 := (hu197 _ (by decide)).trans hT3
    replace hT4 := (hu197 _ (by decide)).trans hT4
    replace hT5 := (hu197 _ (by decide)).trans hT5
    replace hT6 := (hu197 _ (by decide)).trans hT6
    replace hT7 := (hu197 _ (by decide)).trans hT7
    replace hT8 := (hu197 _ (by decide)).trans hT8
    replace hT9 := (hu197 _ (by decide)).trans hT9
    replace hT10 := (hu197 _ (by decide)).trans hT10
    replace hT11 := (hu197 _ (by decide)).trans hT11
    replace hT12 := (hu197 _ (by decide)).trans hT12
    replace hT13 := (hu197 _ (by decide)).trans hT13
    replace hT14 := (hu197 _ (by decide)).trans hT14
    replace hT15 := (hu197 _ (by decide)).trans hT15
    replace hT16 := (hu197 _ (by decide)).trans hT16
    replace hO118 := (hu197 _ (by decide)).trans hO118
    replace hF := q_us hF hu197 (by simp)
    refine lv_aload_n hx hb d_4_13_122 rfl (lv_at hl 2 rfl) ?_
    refine q_get (ci := 5) (j := 2) (v := .ref (q 9)) C0 V i_DW rfl rfl hT0 (by decide) w_214 rfl d_4_13_123 ?_
    refine lv_aload_n hx hb d_4_13_126 rfl (lv_at hl 2 rfl) ?_
    refine q_get (ci := 5) (j := 2) (v := .ref (q 9)) C0 V i_DW rfl rfl hT0 (by decide) w_214 rfl d_4_13_127 ?_
    refine q_get (ci := 4) (j := 0) (v := .ref (q 10)) C0 V i_Mil rfl rfl hO118 (by decide) w_111 rfl d_4_13_130 ?_
    refine lv_iconst (v := 2) hx hb d_4_13_133 (by decide) ?_
    have ob198 : True ∧ S_Mil_root (220 : Int32) (2 : Int32) t7_0 t7_1 t8_0 t5_0 t5_1 t6_0 t9_0 t9_1 t10_0 t11_0 t11_1 t12_0 t13_0 t13_1 t14_0 t3_0 t3_1 t4_0 y172 y173 f174 := (by rw [e190, e189, e188]; have h := hS192; rw [S_DW_squareRoot_c116.eq_1] at h; with_reducible exact h.2.1)
    refine q_gov V (q_runV (As := [.ref (q 10), .int 2]) (rest := []) (d := 5) (mc := 0) (ms := 0) (ci := 4) C0 V rfl LV_DW_160 (X_Mil_root l D g q w196 10 220 (n_b10 g q) (by decide) 2 (by decide) (by decide) (by decide) (by decide) (by decide) (by decide) (by decide) (by decide) (by decide) (by decide) (by decide) (by decide) (by decide) (by decide) (by decide) (by decide) (by decide) (by decide) hI t7_0 t7_1 hT7 t8_0 hT8 t5_0 t5_1 hT5 t6_0 hT6 t9_0 t9_1 hT9 t10_0 hT10 t11_0 t11_1 hT11 t12_0 hT12 t13_0 t13_1 hT13 t14_0 hT14 t3_0 t3_1 hT3 t4_0 hT4 y172 y173 hO171 f174 hA175 ob198 _) rfl rfl hO118 rfl hl.1 rfl (Nat.le_of_ble_eq_true rfl) ⟨by decide, by decide⟩ ⟨Nat.le_of_ble_eq_true rfl, Nat.le_of_ble_eq_true rfl⟩ d_4_13_134) (fun u199 H locs hp200 V => ?_)
    obtain ⟨hI, hZ9⟩ := hp200
    obtain ⟨hu259, hZ9⟩ := hZ9
    obtain ⟨y202, hZ9⟩ := hZ9
    obtain ⟨y203, hZ9⟩ := hZ9
    obtain ⟨f204, hZ9⟩ := hZ9
    obtain ⟨y207, hZ9⟩ := hZ9
    obtain ⟨y208, hZ9⟩ := hZ9
    obtain ⟨f209, hZ9⟩ := hZ9
    obtain ⟨y212, hZ9⟩ := hZ9
    obtain ⟨y213, hZ9⟩ := hZ9
    obtain ⟨f214, hZ9⟩ := hZ9
    obtain ⟨y217, hZ9⟩ := hZ9
    obtain ⟨y218, hZ9⟩ := hZ9
    obtain ⟨f219, hZ9⟩ := hZ9
    obtain ⟨y222, hZ9⟩ := hZ9
    obtain ⟨y223, hZ9⟩ := hZ9
    obtain ⟨f224, hZ9⟩ := hZ9
    obtain ⟨y227, hZ9⟩ := hZ9
    obtain ⟨y228, hZ9⟩ := hZ9
    obtain ⟨f229, hZ9⟩ := hZ9
    obtain ⟨hO201, hZ9⟩ := hZ9
    obtain ⟨hA205, hZ9⟩ := hZ9
    obtain ⟨hO206, hZ9⟩ := hZ9
    obtain ⟨hA210, hZ9⟩ := hZ9
    obtain ⟨hO211, hZ9⟩ := hZ9
    obtain ⟨hA215, hZ9⟩ := hZ9
    obtain ⟨hO216, hZ9⟩ := hZ9
    obtain ⟨hA220, hZ9⟩ := hZ9
    obtain ⟨hO221, hZ9⟩ := hZ9
    obtain ⟨hA225, hZ9⟩ := hZ9
    obtain ⟨hO226, hZ9⟩ := hZ9
    obtain ⟨hA230, hZ9⟩ := hZ9
    obtain ⟨b231, hZ9⟩ := hZ9
    obtain ⟨b232, hZ9⟩ := hZ9
    obtain ⟨b233, hZ9⟩ := hZ9
    obtain ⟨b234, hZ9⟩ := hZ9
    obtain ⟨b235, hZ9⟩ := hZ9
    obtain ⟨b236, hZ9⟩ := hZ9
    obtain ⟨b237, hZ9⟩ := hZ9
    obtain ⟨b238, hZ9⟩ := hZ9
    obtain ⟨b239, hZ9⟩ := hZ9
    obtain ⟨b240, hZ9⟩ := hZ9
    obtain ⟨b241, hZ9⟩ := hZ9
    obtain ⟨b242, hZ9⟩ := hZ9
    replace hZ9 := hZ9.2.2.2.2
    obtain ⟨b247, hZ9⟩ := hZ9
    obtain ⟨b248, hZ9⟩ := hZ9
    obtain ⟨b249, hZ9⟩ := hZ9
    obtain ⟨b250, hZ9⟩ := hZ9
    obtain ⟨b251, hZ9⟩ := hZ9
    obtain ⟨b252, hZ9⟩ := hZ9
    obtain ⟨b253, hZ9⟩ := hZ9
    obtain ⟨b254, hZ9⟩ := hZ9
    replace hZ9 := hZ9.2.2
    obtain ⟨b257, hE258⟩ := hZ9
    replace hO201 : u199[16]? = (some (q 16, .inr (2, [.ref (q 17), .int y202, .int y203])) : Option (Nat × va_E)) := hO201
    replace hA205 : u199[17]? = (some (q 17, .inl (g 0, (220 : Int32).toNatClampNeg, .inl f204)) : Option (Nat × va_E)) := hA205
    replace hO206 : u199[14]? = (some (q 14, .inr (2, [.ref (q 15), .int y207, .int y208])) : Option (Nat × va_E)) := hO206
    replace hA210 : u199[15]? = (some (q 15, .inl (g 0, (220 : Int32).toNatClampNeg, .inl f209)) : Option (Nat × va_E)) := hA210
    replace hO211 : u199[18]? = (some (q 18, .inr (2, [.ref (q 19), .int y212, .int y213])) : Option (Nat × va_E)) := hO211
    replace hA215 : u199[19]? = (some (q 19, .inl (g 0, (220 : Int32).toNatClampNeg, .inl f214)) : Option (Nat × va_E)) := hA215
    replace hO216 : u199[22]? = (some (q 22, .inr (2, [.ref (q 23), .int y217, .int y218])) : Option (Nat × va_E)) := hO216
    replace hA220 : u199[23]? = (some (q 23, .inl (g 0, (220 : Int32).toNatClampNeg, .inl f219)) : Option (Nat × va_E)) := hA220
    replace hO221 : u199[24]? = (some (q 24, .inr (2, [.ref (q 25), .int y222, .int y223])) : Option (Nat × va_E)) := hO221
    replace hA225 : u199[25]? = (some (q 25, .inl (g 0, (220 : Int32).toNatClampNeg, .inl f224)) : Option (Nat × va_E)) := hA225
    replace hO226 : u199[12]? = (some (q 12, .inr (2, [.ref (q 13), .int y227, .int y228])) : Option (Nat × va_E)) := hO226
    replace hA230 : u199[13]? = (some (q 13, .inl (g 0, (220 : Int32).toNatClampNeg, .inl f229)) : Option (Nat × va_E)) := hA230
    obtain ⟨p260, e261⟩ : ∃ z, z = (F_Mil_root (220 : Int32) (2 : Int32) t7_0 t7_1 t8_0 t5_0 t5_1 t6_0 t9_0 t9_1 t10_0 t11_0 t11_1 t12_0 t13_0 t13_1 t14_0 t3_0 t3_1 t4_0 y172 y173 f174) := ⟨_, rfl⟩
    have e262 : y202 = p260.1 := congrArg (fun z => z.1) (hE258.trans e261.symm)
    have e263 : y203 = p260.2.1 := congrArg (fun z => z.2.1) (hE258.trans e261.symm)
    have e264 : f204 = p260.2.2.1 := congrArg (fun z => z.2.2.1) (hE258.trans e261.symm)
    have e265 : y207 = p260.2.2.2.1 := congrArg (fun z => z.2.2.2.1) (hE258.trans e261.symm)
    have e266 : y208 = p260.2.2.2.2.1 := congrArg (fun z => z.2.2.2.2.1) (hE258.trans e261.symm)
    have e267 : f209 = p260.2.2.2.2.2.1 := congrArg (fun z => z.2.2.2.2.2.1) (hE258.trans e261.symm)
    have e268 : y212 = p260.2.2.2.2.2.2.1 := congrArg (fun z => z.2.2.2.2.2.2.1) (hE258.trans e261.symm)
    have e269 : y213 = p260.2.2.2.2.2.2.2.1 := congrArg (fun z => z.2.2.2.2.2.2.2.1) (hE258.trans e261.symm)
    have e270 : f214 = p260.2.2.2.2.2.2.2.2.1 := congrArg (fun z => z.2.2.2.2.2.2.2.2.1) (hE258.trans e261.symm)
    have e271 : y217 = p260.2.2.2.2.2.2.2.2.2.1 := congrArg (fun z => z.2.2.2.2.2.2.2.2.2.1) (hE258.trans e261.symm)
    have e272 : y218 = p260.2.2.2.2.2.2.2.2.2.2.1 := congrArg (fun z => z.2.2.2.2.2.2.2.2.2.2.1) (hE258.trans e261.symm)
    have e273 : f219 = p260.2.2.2.2.2.2.2.2.2.2.2.1 := congrArg (fun z => z.2.2.2.2.2.2.2.2.2.2.2.1) (hE258.trans e261.symm)
    have e274 : y222 = p260.2.2.2.2.2.2.2.2.2.2.2.2.1 := congrArg (fun z => z.2.2.2.2.2.2.2.2.2.2.2.2.1) (hE258.trans e261.symm)
    have e275 : y223 = p260.2.2.2.2.2.2.2.2.2.2.2.2.2.1 := congrArg (fun z => z.2.2.2.2.2.2.2.2.2.2.2.2.2.1) (hE258.trans e261.symm)
    have e276 : f224 = p260.2.2.2.2.2.2.2.2.2.2.2.2.2.2.1 := congrArg (fun z => z.2.2.2.2.2.2.2.2.2.2.2.2.2.2.1) (hE258.trans e261.symm)
    have e277 : y227 = p260.2.2.2.2.2.2.2.2.2.2.2.2.2.2.2.1 := congrArg (fun z => z.2.2.2.2.2.2.2.2.2.2.2.2.2.2.2.1) (hE258.trans e261.symm)
    have e278 : y228 = p260.2.2.2.2.2.2.2.2.2.2.2.2.2.2.2.2.1 := congrArg (fun z => z.2.2.2.2.2.2.2.2.2.2.2.2.2.2.2.2.1) (hE258.trans e261.symm)
    have e279 : f229 = p260.2.2.2.2.2.2.2.2.2.2.2.2.2.2.2.2.2 := congrArg (fun z => z.2.2.2.2.2.2.2.2.2.2.2.2.2.2.2.2.2) (hE258.trans e261.symm)
    replace b231 : q_F (0 ≤ y202.toInt) := b231
    replace b232 : q_F (y202.toInt ≤ 220) := b232
    replace b233 : q_F (0 ≤ y203.toInt) := b233
    replace b234 : q_F (y203.toInt ≤ 1) := b234
    replace b235 : q_F (0 ≤ y207.toInt) := b235
    replace b236 : q_F (y207.toInt ≤ 220) := b236
    replace b237 : q_F (0 ≤ y208.toInt) := b237
    replace b238 : q_F (y208.toInt ≤ 1) := b238
    replace b239 : q_F (0 ≤ y212.toInt) := b239
    replace b240 : q_F (y212.toInt ≤ 220) := b240
    replace b241 : q_F (0 ≤ y213.toInt) := b241
    replace b242 : q_F (y213.toInt ≤ 1) := b242
    replace b247 : q_F (0 ≤ y222.toInt) := b247
    replace b248 : q_F (y222.toInt ≤ 220) := b248
    replace b249 : q_F (0 ≤ y223.toInt) := b249
    replace b250 : q_F (y223.toInt ≤ 220) := b250
    replace b251 : q_F (0 ≤ y227.toInt) := b251
    replace b252 : q_F (y227.toInt ≤ 220) := b252
    replace b253 : q_F (0 ≤ y228.toInt) := b253
    replace b254 : q_F (y228.toInt ≤ 1) := b254
    replace b257 : q_F (y228.toInt ≤ t3_1.toInt) := b257
    replace hT0 := (hu259 _ (by decide)).trans hT0
    replace hO171 := (hu259 _ (by decide)).trans hO171
    replace hA175 := (hu259 _ (by decide)).trans hA175
    replace hT15 := (hu259 _ (by decide)).trans hT15
    replace hT16 := (hu259 _ (by decide)).trans hT16
    replace hO118 := (hu259 _ (by decide)).trans hO118
    replace hF := q_uc hF hu259 (by first | exact (q_sk (q_mi 2 rfl) (q_sk (q_mi 3 rfl) (q_sk (q_mi 4 rfl) (q_sk (q_mi 5 rfl) (q_sk (q_mi 6 rfl) (q_sk (q_mi 7 rfl) (q_sk (q_mi 8 rfl) (q_sk (q_mi 9 rfl) (q_sk (q_mi 12 rfl) (q_sk (q_mi 13 rfl) (q_sk (q_mi 14 rfl) (q_sk (q_mi 15 rfl) q_s0)))))))))))) | simp)
    have hR280 := (show F_DW_squareRoot_c134 R x3 x4 t0_0 t0_1 t1_0 t1_1 t2_0 t3_0 t3_1 t4_0 t5_0 t5_1 t6_0 t7_0 t7_1 t8_0 t9_0 t9_1 t10_0 t11_0 t11_1 t12_0 t13_0 t13_1 t14_0 t15_0 t15_1 t16_0 t17_0 t17_1 t18_0 t18_1 t19_0 a116 a84 j104 p133 p156 p185 a170 y172 y173 f174 p260 = (F_DW_squareRoot R x3 x4 t0_0 t0_1 t1_0 t1_1 t2_0 t3_0 t3_1 t4_0 t5_0 t5_1 t6_0 t7_0 t7_1 t8_0 t9_0 t9_1 t10_0 t11_0 t11_1 t12_0 t13_0 t13_1 t14_0 t15_0 t15_1 t16_0 t17_0 t17_1 t18_0 t18_1 t19_0) from Eq.trans (by rw [e261, e190, e189, e188, e187, F_DW_squareRoot_c116.eq_1]) hR191)
    have hS281 := (show True ∧ S_DW_squareRoot_c134 R x3 x4 t0_0 t0_1 t1_0 t1_1 t2_0 t3_0 t3_1 t4_0 t5_0 t5_1 t6_0 t7_0 t7_1 t8_0 t9_0 t9_1 t10_0 t11_0 t11_1 t12_0 t13_0 t13_1 t14_0 t15_0 t15_1 t16_0 t17_0 t17_1 t18_0 t18_1 t19_0 a116 a84 j104 p133 p156 p185 a170 y172 y173 f174 p260 from (by rw [e261, e190, e189, e188, e187]; have h := hS192; rw [S_DW_squareRoot_c116.eq_1] at h; replace h := q_s2 h; with_reducible exact h))
    refine lv_aload_n hx hb d_4_13_137 rfl (lv_at hl 2 rfl) ?_
    refine q_get (ci := 5) (j := 2) (v := .ref (q 9)) C0 V i_DW rfl rfl hT0 (by decide) w_214 rfl d_4_13_138 ?_
    refine q_get (ci := 4) (j := 6) (v := .ref (q 22)) C0 V i_Mil rfl rfl hO118 (by decide) w_126 rfl d_4_13_141 ?_
    refine lv_aload_n hx hb d_4_13_144 rfl (lv_at hl 2 rfl) ?_
    refine q_get (ci := 5) (j := 2) (v := .ref (q 9)) C0 V i_DW rfl rfl hT0 (by decide) w_214 rfl d_4_13_145 ?_
    refine q_get (ci := 4) (j := 3) (v := .ref (q 16)) C0 V i_Mil rfl rfl hO118 (by decide) w_122 rfl d_4_13_148 ?_
    refine lv_aload_n hx hb d_4_13_151 rfl (lv_at hl 2 rfl) ?_
    refine q_get (ci := 5) (j := 2) (v := .ref (q 9)) C0 V i_DW rfl rfl hT0 (by decide) w_214 rfl d_4_13_152 ?_
    refine q_get (ci := 4) (j := 3) (v := .ref (q 16)) C0 V i_Mil rfl rfl hO118 (by decide) w_122 rfl d_4_13_155 ?_
    refine q_gov V (q_runV (As := [.ref (q 16), .ref (q 16)]) (rest := []) (d := 3) (mc := 0) (ms := 0) (ci := 2) C0 V rfl LV_DW_94 (X_Big_product l D g q u199 22 220 (n_b22 g q) (by decide) 16 220 (n_b16 g q) (by decide) 16 220 (n_b16 g q) (by decide)  (by decide) (by decide) hI y217 y218 hO216 f219 hA220 y202 y203 hO201 f204 hA205 y202 y203 hO201 f204 hA205  _) rfl rfl hO216 rfl hl.1 rfl (Nat.le_of_ble_eq_true rfl) ⟨by decide, by decide⟩ ⟨Nat.le_of_ble_eq_true rfl, Nat.le_of_ble_eq_true rfl⟩ d_4_13_158) (fun u285 H locs hp286 V => ?_)
    obtain ⟨hI, hZ9⟩ := hp286
    obtain ⟨hu297, hZ9⟩ := hZ9
    obtain ⟨y288, hZ9⟩ := hZ9
    obtain ⟨y289, hZ9⟩ := hZ9
    obtain ⟨f290, hZ9⟩ := hZ9
    obtain ⟨hO287, hZ9⟩ := hZ9
    obtain ⟨hA291, hZ9⟩ := hZ9
    replace hZ9 := hZ9.2.2.2
    obtain ⟨-, hE296⟩ := hZ9
    replace hO287 : u285[22]? = (some (q 22, .inr (2, [.ref (q 23), .int y288, .int y289])) : Option (Nat × va_E)) := hO287
    replace hA291 : u285[23]? = (some (q 23, .inl (g 0, (220 : Int32).toNatClampNeg, .inl f290)) : Option (Nat × va_E)) := hA291
    obtain ⟨p298, e299⟩ : ∃ z, z = (F_Big_product (220 : Int32) (220 : Int32) (220 : Int32) y217 y218 f219 y202 y203 f204 y202 y203 f204) := ⟨_, rfl⟩
    have e300 : y288 = p298.1 := congrArg (fun z => z.1) (hE296.trans e299.symm)
    have e301 : y289 = p298.2.1 := congrArg (fun z => z.2.1) (hE296.trans e299.symm)
    have e302 : f290 = p298.2.2 := congrArg (fun z => z.2.2) (hE296.trans e299.symm)
    replace hT0 := (hu297 _ (by decide)).trans hT0
    replace hO171 := (hu297 _ (by decide)).trans hO171
    replace hA175 := (hu297 _ (by decide)).trans hA175
    replace hO226 := (hu297 _ (by decide)).trans hO226
    replace hA230 := (hu297 _ (by decide)).trans hA230
    replace hO206 := (hu297 _ (by decide)).trans hO206
    replace hA210 := (hu297 _ (by decide)).trans hA210
    replace hO201 := (hu297 _ (by decide)).trans hO201
    replace hA205 := (hu297 _ (by decide)).trans hA205
    replace hO211 := (hu297 _ (by decide)).trans hO211
    replace hA215 := (hu297 _ (by decide)).trans hA215
    replace hO221 := (hu297 _ (by decide)).trans hO221
    replace hA225 := (hu297 _ (by decide)).trans hA225
    replace hT15 := (hu297 _ (by decide)).trans hT15
    replace hT16 := (hu297 _ (by decide)).trans hT16
    replace hO118 := (hu297 _ (by decide)).trans hO118
    replace hF := q_uc hF hu297 (by first | exact (q_sk (q_mi 12 rfl) (q_sk (q_mi 13 rfl) q_s0)) | simp)
    have hR303 := (show F_DW_squareRoot_c158 R x3 x4 t0_0 t0_1 t1_0 t1_1 t2_0 t3_0 t3_1 t4_0 t5_0 t5_1 t6_0 t7_0 t7_1 t8_0 t9_0 t9_1 t10_0 t11_0 t11_1 t12_0 t13_0 t13_1 t14_0 t15_0 t15_1 t16_0 t17_0 t17_1 t18_0 t18_1 t19_0 a116 a84 j104 p133 p156 p185 a170 y172 y173 f174 p260 y227 y228 f229 y207 y208 f209 y202 y203 f204 y212 y213 f214 y222 y223 f224 p298 = (F_DW_squareRoot R x3 x4 t0_0 t0_1 t1_0 t1_1 t2_0 t3_0 t3_1 t4_0 t5_0 t5_1 t6_0 t7_0 t7_1 t8_0 t9_0 t9_1 t10_0 t11_0 t11_1 t12_0 t13_0 t13_1 t14_0 t15_0 t15_1 t16_0 t17_0 t17_1 t18_0 t18_1 t19_0) from Eq.trans (by rw [e299, e279, e278, e277, e276, e275, e274, e273, e272, e271, e270, e269, e268, e267, e266, e265, e264, e263, e262, F_DW_squareRoot_c134.eq_1]) hR280)
    have hS304 := (show True ∧ S_DW_squareRoot_c158 R x3 x4 t0_0 t0_1 t1_0 t1_1 t2_0 t3_0 t3_1 t4_0 t5_0 t5_1 t6_0 t7_0 t7_1 t8_0 t9_0 t9_1 t10_0 t11_0 t11_1 t12_0 t13_0 t13_1 t14_0 t15_0 t15_1 t16_0 t17_0 t17_1 t18_0 t18_1 t19_0 a116 a84 j104 p133 p156 p185 a170 y172 y173 f174 p260 y227 y228 f229 y207 y208 f209 y202 y203 f204 y212 y213 f214 y222 y223 f224 p298 from (by rw [e299, e279, e278, e277, e276, e275, e274, e273, e272, e271, e270, e269, e268, e267, e266, e265, e264, e263, e262]; have h := hS281; rw [S_DW_squareRoot_c134.eq_1] at h; with_reducible exact h))
    refine lv_aload_n hx hb d_4_13_161 rfl (lv_at hl 2 rfl) ?_
    refine lv_dup hx hb d_4_13_162 rfl ?_
    refine q_get (ci := 5) (j := 3) (v := .int a170) C0 V i_DW rfl rfl hT0 (by decide) w_215 rfl d_4_13_163 ?_
    refine lv_aload_n hx hb d_4_13_166 rfl (lv_at hl 2 rfl) ?_
    refine q_get (ci := 5) (j := 2) (v := .ref (q 9)) C0 V i_DW rfl rfl hT0 (by decide) w_214 rfl d_4_13_167 ?_
    refine q_get (ci := 4) (j := 6) (v := .ref (q 22)) C0 V i_Mil rfl rfl hO118 (by decide) w_126 rfl d_4_13_170 ?_
    refine lv_aload_n hx hb d_4_13_173 rfl (lv_at hl 2 rfl) ?_
    refine q_get (ci := 5) (j := 2) (v := .ref (q 9)) C0 V i_DW rfl rfl hT0 (by decide) w_214 rfl d_4_13_174 ?_
    refine q_get (ci := 4) (j := 0) (v := .ref (q 10)) C0 V i_Mil rfl rfl hO118 (by decide) w_111 rfl d_4_13_177 ?_
    refine q_goi V (q_runV (As := [.ref (q 10)]) (rest := [.int a170, .ref (q 30)]) (d := 2) (mc := 0) (ms := 0) (ci := 2) C0 V rfl LV_DW_166 (X_Big_compareSize l D g q u285 22 220 (n_b22 g q) (by decide) 10 220 (n_b10 g q) (by decide)  hI y288 y289 hO287 f290 hA291 y172 y173 hO171 f174 hA175  _) rfl rfl hO287 rfl hl.1 rfl (Nat.le_of_ble_eq_true rfl) ⟨by decide, by decide⟩ ⟨Nat.le_of_ble_eq_true rfl, Nat.le_of_ble_eq_true rfl⟩ d_4_13_180) (fun a310 u308 H locs hp309 V => ?_)
    obtain ⟨rfl, b311, b312, hE313⟩ := hp309
    have e314 : a310 = (F_Big_compareSize (220 : Int32) (220 : Int32) y288 y289 f290 y172 y173 f174) := hE313
    clear b311
    clear b312
    refine q_join (X := Int32) (fun z H locs ls _ => q_F (0 ≤ z.toInt) ∧ q_F (z.toInt ≤ 1) ∧ q_Wd D g (va_A ws sz) s u285 H locs ∧ lv_has ls 6 [(4, .int a84), (0, .ref (q 30)), (2, .int x3), (3, .int x4)] ∧ F_DW_squareRoot_J191 R x3 x4 t0_0 t0_1 t1_0 t1_1 t2_0 t3_0 t3_1 t4_0 t5_0 t5_1 t6_0 t7_0 t7_1 t8_0 t9_0 t9_1 t10_0 t11_0 t11_1 t12_0 t13_0 t13_1 t14_0 t15_0 t15_1 t16_0 t17_0 t17_1 t18_0 t18_1 t19_0 a116 a84 j104 p133 p156 p185 a170 y172 y173 f174 p260 y227 y228 f229 y207 y208 f209 y202 y203 f204 y212 y213 f214 y222 y223 f224 p298 y288 y289 f290 z = (F_DW_squareRoot R x3 x4 t0_0 t0_1 t1_0 t1_1 t2_0 t3_0 t3_1 t4_0 t5_0 t5_1 t6_0 t7_0 t7_1 t8_0 t9_0 t9_1 t10_0 t11_0 t11_1 t12_0 t13_0 t13_1 t14_0 t15_0 t15_1 t16_0 t17_0 t17_1 t18_0 t18_1 t19_0) ∧ True ∧ S_DW_squareRoot_J191 R x3 x4 t0_0 t0_1 t1_0 t1_1 t2_0 t3_0 t3_1 t4_0 t5_0 t5_1 t6_0 t7_0 t7_1 t8_0 t9_0 t9_1 t10_0 t11_0 t11_1 t12_0 t13_0 t13_1 t14_0 t15_0 t15_1 t16_0 t17_0 t17_1 t18_0 t18_1 t19_0 a116 a84 j104 p133 p156 p185 a170 y172 y173 f174 p260 y227 y228 f229 y207 y208 f209 y202 y203 f204 y212 y213 f214 y222 y223 f224 p298 y288 y289 f290 z) (fun z => [.int z, .int a170, .ref (q 30)]) 191 0 0 ?_ ?_
    ·
      rintro lx315 H locs ls _ hZ9
      obtain ⟨i337, hZ9⟩ := hZ9
      obtain ⟨i338, hZ9⟩ := hZ9
      obtain ⟨V, hZ9⟩ := hZ9
      obtain ⟨hl, hZ9⟩ := hZ9
      obtain ⟨hR339, hS340⟩ := hZ9
      replace i337 : q_F (0 ≤ lx315.toInt) := i337
      replace i338 : q_F (lx315.toInt ≤ 1) := i338
      replace hl : lv_has ls 6 [(4, .int a84), (0, .ref (q 30)), (2, .int x3), (3, .int x4)] := hl
      refine lv_ior hx hb d_4_13_191 ?_
      obtain ⟨a344, e345⟩ := q_nm (a170 ||| lx315 : Int32)
      refine q_ti (v := a344) e345 ?_
      have b346 : q_F (0 ≤ a344.toInt ∧ a344.toInt ≤ 1) := (by rw [← e345]; show 0 ≤ (a170 ||| lx315 : Int32).toInt ∧ (a170 ||| lx315 : Int32).toInt ≤ 1; exact s_or' (x := a170) (y := lx315) 1 (by decide) 1 (by decide) ⟨(by have t1 : 0 ≤ a170.toInt := b176; have t2 : a170.toInt ≤ 1 := b177; omega), (by have t1 : 0 ≤ a170.toInt := b176; have t2 : a170.toInt ≤ 1 := b177; omega)⟩ ⟨(by have t1 : 0 ≤ lx315.toInt := i337; have t2 : lx315.toInt ≤ 1 := i338; omega), (by have t1 : 0 ≤ lx315.toInt := i337; have t2 : lx315.toInt ≤ 1 := i338; omega)⟩)
      refine q_put (ci := 5) (j := 3) (v := .int a344) (ty := .boolean) C0 V i_DW o_DW n_DW rfl rfl hT0 (by decide) w_215 rfl rfl (q_nz01 (q_Ile (x := 0) (y := a344.toInt) (by decide) rfl (by first | with_reducible exact (q_fe b346).2 | with_reducible exact (q_fe b346).1 | (have t1 : 0 ≤ a344.toInt ∧ a344.toInt ≤ 1 := b346; omega))) (q_Ile (x := a344.toInt) (y := 1) rfl (by decide) (by first | with_reducible exact (q_fe b346).2 | with_reducible exact (q_fe b346).1 | (have t1 : 0 ≤ a344.toInt ∧ a344.toInt ≤ 1 := b346; omega)))) (q_fz01 (q_Ile (x := 0) (y := a344.toInt) (by decide) rfl (by first | with_reducible exact (q_fe b346).2 | with_reducible exact (q_fe b346).1 | (have t1 : 0 ≤ a344.toInt ∧ a344.toInt ≤ 1 := b346; omega))) (q_Ile (x := a344.toInt) (y := 1) rfl (by decide) (by first | with_reducible exact (q_fe b346).2 | with_reducible exact (q_fe b346).1 | (have t1 : 0 ≤ a344.toInt ∧ a344.toInt ≤ 1 := b346; omega)))) (Nat.le_of_ble_eq_true rfl) d_4_13_192 (fun H locs w347 hu348 hT0 V => ?_)
      replace hT0 : w347[30]? = (some (q 30, .inr (5, [.ref (q 31), .long j104, .ref (q 9), .int a344])) : Option (Nat × va_E)) := hT0
      replace hI := n_p30 hI hu348 hT0 (by first | with_reducible exact q_fe b346 | exact ⟨(by have t1 : 0 ≤ a344.toInt ∧ a344.toInt ≤ 1 := b346; omega), (by have t1 : 0 ≤ a344.toInt ∧ a344.toInt ≤ 1 := b346; omega)⟩)
      replace hO171 := (hu348 _ (by decide)).trans hO171
      replace hA175 := (hu348 _ (by decide)).trans hA175
      replace hO226 := (hu348 _ (by decide)).trans hO226
      replace hA230 := (hu348 _ (by decide)).trans hA230
      replace hO206 := (hu348 _ (by decide)).trans hO206
      replace hA210 := (hu348 _ (by decide)).trans hA210
      replace hO201 := (hu348 _ (by decide)).trans hO201
      replace hA205 := (hu348 _ (by decide)).trans hA205
      replace hO211 := (hu348 _ (by decide)).trans hO211
      replace hA215 := (hu348 _ (by decide)).trans hA215
      replace hO287 := (hu348 _ (by decide)).trans hO287
      replace hA291 := (hu348 _ (by decide)).trans hA291
      replace hO221 := (hu348 _ (by decide)).trans hO221
      replace hA225 := (hu348 _ (by decide)).trans hA225
      replace hT15 := (hu348 _ (by decide)).trans hT15
      replace hT16 := (hu348 _ (by decide)).trans hT16
      replace hO118 := (hu348 _ (by decide)).trans hO118
      replace hF := q_us hF hu348 (by simp)
      refine lv_aload_n hx hb d_4_13_195 rfl (lv_at hl 1 rfl) ?_
      refine q_get (ci := 5) (j := 2) (v := .ref (q 9)) C0 V i_DW rfl rfl hT0 (by decide) w_214 rfl d_4_13_196 ?_
      refine q_get (ci := 4) (j := 0) (v := .ref (q 10)) C0 V i_Mil rfl rfl hO118 (by decide) w_111 rfl d_4_13_199 ?_
      refine lv_aload_n hx hb d_4_13_202 rfl (lv_at hl 1 rfl) ?_
      refine q_get (ci := 5) (j := 2) (v := .ref (q 9)) C0 V i_DW rfl rfl hT0 (by decide) w_214 rfl d_4_13_203 ?_
      refine q_get (ci := 4) (j := 3) (v := .ref (q 16)) C0 V i_Mil rfl rfl hO118 (by decide) w_122 rfl d_4_13_206 ?_
      refine q_gov V (q_runV (As := [.ref (q 16)]) (rest := []) (d := 2) (mc := 0) (ms := 0) (ci := 2) C0 V rfl LV_DW_44 (X_Big_copy l D g q w347 10 220 (n_b10 g q) (by decide) 16 220 (n_b16 g q) (by decide)  (by decide) hI y172 y173 hO171 f174 hA175 y202 y203 hO201 f204 hA205  _) rfl rfl hO171 rfl hl.1 rfl (Nat.le_of_ble_eq_true rfl) ⟨by decide, by decide⟩ ⟨Nat.le_of_ble_eq_true rfl, Nat.le_of_ble_eq_true rfl⟩ d_4_13_209) (fun u349 H locs hp350 V => ?_)
      obtain ⟨hI, hZ9⟩ := hp350
      obtain ⟨hu362, hZ9⟩ := hZ9
      obtain ⟨y352, hZ9⟩ := hZ9
      obtain ⟨y353, hZ9⟩ := hZ9
      obtain ⟨f354, hZ9⟩ := hZ9
      obtain ⟨hO351, hZ9⟩ := hZ9
      obtain ⟨hA355, hZ9⟩ := hZ9
      replace hZ9 := hZ9.2.2.2.2
      obtain ⟨-, hE361⟩ := hZ9
      replace hO351 : u349[10]? = (some (q 10, .inr (2, [.ref (q 11), .int y352, .int y353])) : Option (Nat × va_E)) := hO351
      replace hA355 : u349[11]? = (some (q 11, .inl (g 0, (220 : Int32).toNatClampNeg, .inl f354)) : Option (Nat × va_E)) := hA355
      obtain ⟨p363, e364⟩ : ∃ z, z = (F_Big_copy (220 : Int32) (220 : Int32) y172 y173 f174 y202 y203 f204) := ⟨_, rfl⟩
      have e365 : y352 = p363.1 := congrArg (fun z => z.1) (hE361.trans e364.symm)
      have e366 : y353 = p363.2.1 := congrArg (fun z => z.2.1) (hE361.trans e364.symm)
      have e367 : f354 = p363.2.2 := congrArg (fun z => z.2.2) (hE361.trans e364.symm)
      replace hT0 := (hu362 _ (by decide)).trans hT0
      replace hO226 := (hu362 _ (by decide)).trans hO226
      replace hA230 := (hu362 _ (by decide)).trans hA230
      replace hO206 := (hu362 _ (by decide)).trans hO206
      replace hA210 := (hu362 _ (by decide)).trans hA210
      replace hO201 := (hu362 _ (by decide)).trans hO201
      replace hA205 := (hu362 _ (by decide)).trans hA205
      replace hO211 := (hu362 _ (by decide)).trans hO211
      replace hA215 := (hu362 _ (by decide)).trans hA215
      replace hO287 := (hu362 _ (by decide)).trans hO287
      replace hA291 := (hu362 _ (by decide)).trans hA291
      replace hO221 := (hu362 _ (by decide)).trans hO221
      replace hA225 := (hu362 _ (by decide)).trans hA225
      replace hT15 := (hu362 _ (by decide)).trans hT15
      replace hT16 := (hu362 _ (by decide)).trans hT16
      replace hF := q_uc hF hu362 (by first | exact (q_sk (q_mi 0 rfl) (q_sk (q_mi 1 rfl) q_s0)) | simp)
      have hR368 := (show F_DW_squareRoot_c209 R x3 x4 t0_0 t0_1 t1_0 t1_1 t2_0 t3_0 t3_1 t4_0 t5_0 t5_1 t6_0 t7_0 t7_1 t8_0 t9_0 t9_1 t10_0 t11_0 t11_1 t12_0 t13_0 t13_1 t14_0 t15_0 t15_1 t16_0 t17_0 t17_1 t18_0 t18_1 t19_0 a116 a84 j104 p133 p156 p185 a170 y172 y173 f174 p260 y227 y228 f229 y207 y208 f209 y202 y203 f204 y212 y213 f214 y222 y223 f224 p298 y288 y289 f290 lx315 a344 p363 = (F_DW_squareRoot R x3 x4 t0_0 t0_1 t1_0 t1_1 t2_0 t3_0 t3_1 t4_0 t5_0 t5_1 t6_0 t7_0 t7_1 t8_0 t9_0 t9_1 t10_0 t11_0 t11_1 t12_0 t13_0 t13_1 t14_0 t15_0 t15_1 t16_0 t17_0 t17_1 t18_0 t18_1 t19_0) from Eq.trans (by rw [e364, ← e345, F_DW_squareRoot_J191.eq_1]) hR339)
      have hS369 := (show True ∧ S_DW_squareRoot_c209 R x3 x4 t0_0 t0_1 t1_0 t1_1 t2_0 t3_0 t3_1 t4_0 t5_0 t5_1 t6_0 t7_0 t7_1 t8_0 t9_0 t9_1 t10_0 t11_0 t11_1 t12_0 t13_0 t13_1 t14_0 t15_0 t15_1 t16_0 t17_0 t17_1 t18_0 t18_1 t19_0 a116 a84 j104 p133 p156 p185 a170 y172 y173 f174 p260 y227 y228 f229 y207 y208 f209 y202 y203 f204 y212 y213 f214 y222 y223 f224 p298 y288 y289 f290 lx315 a344 p363 from (by rw [e364, ← e345]; have h := hS340; rw [S_DW_squareRoot_J191.eq_1] at h; with_reducible exact h))
      refine lv_aload_n hx hb d_4_13_212 rfl (lv_at hl 1 rfl) ?_
      refine lv_iconst (v := 0) hx hb d_4_13_213 (by decide) ?_
      refine lv_iload_n hx hb d_4_13_214 rfl (lv_at hl 2 rfl) ?_
      refine lv_iload hx hb d_4_13_215 (lv_at hl 0 rfl) ?_
      refine lv_i2l hx hb d_4_13_217 rfl ?_
      obtain ⟨j373, e374⟩ := q_nm (a84.toInt64 : Int64)
      refine q_tl (v := j373) e374 ?_
      refine lv_iload_n hx hb d_4_13_218 rfl (lv_at hl 3 rfl) ?_
      refine q_goi V (q_runV (As := [.int 0, .int x3, .long j373, .int x4]) (rest := []) (d := 5) (mc := 0) (ms := 0) (ci := 5) C0 V rfl LV_DW_153 (X_DW_shorten l D g q u349  0 x3 j373 x4 hI j104 a344 hT0 y352 y353 hO351 f354 hA355 y288 y289 hO287 f290 hA291 t15_0 t15_1 hT15 t16_0 hT16 ⟨(by have y0 : (0 : Int32).toInt = 0 := rfl; omega), (by have y0 : (0 : Int32).toInt = 0 := rfl; omega)⟩ _) rfl rfl hT0 rfl hl.1 rfl (Nat.le_of_ble_eq_true rfl) ⟨by decide, by decide⟩ ⟨Nat.le_of_ble_eq_true rfl, Nat.le_of_ble_eq_true rfl⟩ d_4_13_219) (fun a378 u376 H locs hp377 V => ?_)
      obtain ⟨hI, hZ9⟩ := hp377
      obtain ⟨hu415, hZ9⟩ := hZ9
      obtain ⟨y380, hZ9⟩ := hZ9
      obtain ⟨y381, hZ9⟩ := hZ9
      obtain ⟨y383, hZ9⟩ := hZ9
      obtain ⟨y384, hZ9⟩ := hZ9
      obtain ⟨f385, hZ9⟩ := hZ9
      obtain ⟨y388, hZ9⟩ := hZ9
      obtain ⟨y389, hZ9⟩ := hZ9
      obtain ⟨f390, hZ9⟩ := hZ9
      obtain ⟨y393, hZ9⟩ := hZ9
      obtain ⟨y394, hZ9⟩ := hZ9
      obtain ⟨f395, hZ9⟩ := hZ9
      obtain ⟨hO379, hZ9⟩ := hZ9
      obtain ⟨hO382, hZ9⟩ := hZ9
      obtain ⟨hA386, hZ9⟩ := hZ9
      obtain ⟨hO387, hZ9⟩ := hZ9
      obtain ⟨hA391, hZ9⟩ := hZ9
      obtain ⟨hO392, hZ9⟩ := hZ9
      obtain ⟨hA396, hZ9⟩ := hZ9
      obtain ⟨b397, hZ9⟩ := hZ9
      obtain ⟨b398, hZ9⟩ := hZ9
      obtain ⟨b399, hZ9⟩ := hZ9
      obtain ⟨b400, hZ9⟩ := hZ9
      obtain ⟨b401, hZ9⟩ := hZ9
      obtain ⟨b402, hZ9⟩ := hZ9
      obtain ⟨b403, hZ9⟩ := hZ9
      obtain ⟨b404, hZ9⟩ := hZ9
      obtain ⟨b405, hZ9⟩ := hZ9
      obtain ⟨b406, hZ9⟩ := hZ9
      obtain ⟨b407, hZ9⟩ := hZ9
      obtain ⟨b408, hZ9⟩ := hZ9
      obtain ⟨b409, hZ9⟩ := hZ9
      obtain ⟨b410, hZ9⟩ := hZ9
      obtain ⟨b411, hZ9⟩ := hZ9
      obtain ⟨b412, hZ9⟩ := hZ9
      obtain ⟨-, hE414⟩ := hZ9
      replace hO379 : u376[30]? = (some (q 30, .inr (5, [.ref (q 31), .long y380, .ref (q 9), .int y381])) : Option (Nat × va_E)) := hO379
      replace hO382 : u376[10]? = (some (q 10, .inr (2, [.ref (q 11), .int y383, .int y384])) : Option (Nat × va_E)) := hO382
      replace hA386 : u376[11]? = (some (q 11, .inl (g 0, (220 : Int32).toNatClampNeg, .inl f385)) : Option (Nat × va_E)) := hA386
      replace hO387 : u376[22]? = (some (q 22, .inr (2, [.ref (q 23), .int y388, .int y389])) : Option (Nat × va_E)) := hO387
      replace hA391 : u376[23]? = (some (q 23, .inl (g 0, (220 : Int32).toNatClampNeg, .inl f390)) : Option (Nat × va_E)) := hA391
      replace hO392 : u376[20]? = (some (q 20, .inr (2, [.ref (q 21), .int y393, .int y394])) : Option (Nat × va_E)) := hO392
      replace hA396 : u376[21]? = (some (q 21, .inl (g 0, (220 : Int32).toNatClampNeg, .inl f395)) : Option (Nat × va_E)) := hA396
      obtain ⟨p416, e417⟩ : ∃ z, z = (F_DW_shorten (0 : Int32) x3 j373 x4 j104 a344 y352 y353 f354 y288 y289 f290 t15_0 t15_1 t16_0) := ⟨_, rfl⟩
      have e418 : a378 = p416.1 := congrArg (fun z => z.1) (hE414.trans e417.symm)
      have e419 : y380 = p416.2.1 := congrArg (fun z => z.2.1) (hE414.trans e417.symm)
      have e420 : y381 = p416.2.2.1 := congrArg (fun z => z.2.2.1) (hE414.trans e417.symm)
      have e421 : y383 = p416.2.2.2.1 := congrArg (fun z => z.2.2.2.1) (hE414.trans e417.symm)
      have e422 : y384 = p416.2.2.2.2.1 := congrArg (fun z => z.2.2.2.2.1) (hE414.trans e417.symm)
      have e423 : f385 = p416.2.2.2.2.2.1 := congrArg (fun z => z.2.2.2.2.2.1) (hE414.trans e417.symm)
      have e424 : y388 = p416.2.2.2.2.2.2.1 := congrArg (fun z => z.2.2.2.2.2.2.1) (hE414.trans e417.symm)
      have e425 : y389 = p416.2.2.2.2.2.2.2.1 := congrArg (fun z => z.2.2.2.2.2.2.2.1) (hE414.trans e417.symm)
      have e426 : f390 = p416.2.2.2.2.2.2.2.2.1 := congrArg (fun z => z.2.2.2.2.2.2.2.2.1) (hE414.trans e417.symm)
      have e427 : y393 = p416.2.2.2.2.2.2.2.2.2.1 := congrArg (fun z => z.2.2.2.2.2.2.2.2.2.1) (hE414.trans e417.symm)
      have e428 : y394 = p416.2.2.2.2.2.2.2.2.2.2.1 := congrArg (fun z => z.2.2.2.2.2.2.2.2.2.2.1) (hE414.trans e417.symm)
      have e429 : f395 = p416.2.2.2.2.2.2.2.2.2.2.2 := congrArg (fun z => z.2.2.2.2.2.2.2.2.2.2.2) (hE414.trans e417.symm)
      replace b397 : q_F (0 ≤ a378.toInt) := b397
      replace b398 : q_F (a378.toInt ≤ 1) := b398
      replace b399 : q_F (0 ≤ y383.toInt) := b399
      replace b400 : q_F (y383.toInt ≤ 220) := b400
      replace b401 : q_F (0 ≤ y384.toInt) := b401
      replace b402 : q_F (y384.toInt ≤ 1) := b402
      replace b403 : q_F (0 ≤ y388.toInt) := b403
      replace b404 : q_F (y388.toInt ≤ 220) := b404
      replace b405 : q_F (0 ≤ y389.toInt) := b405
      replace b406 : q_F (y389.toInt ≤ 1) := b406
      replace b407 : q_F (0 ≤ y393.toInt) := b407
      replace b408 : q_F (y393.toInt ≤ 220) := b408
      replace b409 : q_F (0 ≤ y394.toInt) := b409
      replace b410 : q_F (y394.toInt ≤ 1) := b410
      replace b411 : q_F (a344.toInt ≤ y381.toInt) := b411
      replace b412 : q_F (y381.toInt ≤ a344.toInt) := b412
      replace hO226 := (hu415 _ (by decide)).trans hO226
      replace hA230 := (hu415 _ (by decide)).trans hA230
      replace hO206 := (hu415 _ (by decide)).trans hO206
      replace hA210 := (hu415 _ (by decide)).trans hA210
      replace hO201 := (hu415 _ (by decide)).trans hO201
      replace hA205 := (hu415 _ (by decide)).trans hA205
      replace hO211 := (hu415 _ (by decide)).trans hO211
      replace hA215 := (hu415 _ (by decide)).trans hA215
      replace hO221 := (hu415 _ (by decide)).trans hO221
      replace hA225 := (hu415 _ (by decide)).trans hA225
      replace hF := q_uc hF hu415 (by first | exact (q_sk (q_mi 0 rfl) (q_sk (q_mi 1 rfl) (q_sk (q_mi 10 rfl) (q_sk (q_mi 11 rfl) (q_sk (q_mi 12 rfl) (q_sk (q_mi 13 rfl) (q_sk (q_mi 16 rfl) q_s0))))))) | simp)
      have hR430 := (show F_DW_squareRoot_c219 R x3 x4 t0_0 t0_1 t1_0 t1_1 t2_0 t3_0 t3_1 t4_0 t5_0 t5_1 t6_0 t7_0 t7_1 t8_0 t9_0 t9_1 t10_0 t11_0 t11_1 t12_0 t13_0 t13_1 t14_0 t15_0 t15_1 t16_0 t17_0 t17_1 t18_0 t18_1 t19_0 a116 a84 j104 p133 p156 p185 a170 y172 y173 f174 p260 y227 y228 f229 y207 y208 f209 y202 y203 f204 y212 y213 f214 y222 y223 f224 p298 y288 y289 f290 lx315 a344 p363 p416 = (F_DW_squareRoot R x3 x4 t0_0 t0_1 t1_0 t1_1 t2_0 t3_0 t3_1 t4_0 t5_0 t5_1 t6_0 t7_0 t7_1 t8_0 t9_0 t9_1 t10_0 t11_0 t11_1 t12_0 t13_0 t13_1 t14_0 t15_0 t15_1 t16_0 t17_0 t17_1 t18_0 t18_1 t19_0) from Eq.trans (by rw [e417, ← e374, e367, e366, e365, F_DW_squareRoot_c209.eq_1]) hR368)
      have hS431 := (show True ∧ S_DW_squareRoot_c219 R x3 x4 t0_0 t0_1 t1_0 t1_1 t2_0 t3_0 t3_1 t4_0 t5_0 t5_1 t6_0 t7_0 t7_1 t8_0 t9_0 t9_1 t10_0 t11_0 t11_1 t12_0 t13_0 t13_1 t14_0 t15_0 t15_1 t16_0 t17_0 t17_1 t18_0 t18_1 t19_0 a116 a84 j104 p133 p156 p185 a170 y172 y173 f174 p260 y227 y228 f229 y207 y208 f209 y202 y203 f204 y212 y213 f214 y222 y223 f224 p298 y288 y289 f290 lx315 a344 p363 p416 from (by rw [e417, ← e374, e367, e366, e365]; have h := hS369; rw [S_DW_squareRoot_c209.eq_1] at h; with_reducible exact h))
      exact q_retz C0 V (q_nz01 (q_Ile (x := 0) (y := a378.toInt) (by decide) rfl (by first | with_reducible exact q_fe b397 | (have t1 : 0 ≤ a378.toInt := b397; omega))) (q_Ile (x := a378.toInt) (y := 1) rfl (by decide) (by first | with_reducible exact q_fe b398 | (have t1 : a378.toInt ≤ 1 := b398; omega)))) (⟨hI, hF, y380, y381, y383, y384, f385, y227, y228, f229, y207, y208, f209, y202, y203, f204, y212, y213, f214, y388, y389, f390, y222, y223, f224, y393, y394, f395, hO379, hO382, hA386, hO226, hA230, hO206, hA210, hO201, hA205, hO211, hA215, hO387, hA391, hO221, hA225, hO392, hA396, (show 0 ≤ a378.toInt from (by first | with_reducible exact q_fe b397 | (have t1 : 0 ≤ a378.toInt := b397; omega))), (show a378.toInt ≤ 1 from (by first | with_reducible exact q_fe b398 | (have t1 : a378.toInt ≤ 1 := b398; omega))), (show 0 ≤ y381.toInt from (by have t1 : 0 ≤ a344.toInt ∧ a344.toInt ≤ 1 := b346; have t2 : a344.toInt ≤ y381.toInt := b411; omega)), (show y381.toInt ≤ 1 from (by have t1 : 0 ≤ a344.toInt ∧ a344.toInt ≤ 1 := b346; have t2 : y381.toInt ≤ a344.toInt := b412; omega)), (show 0 ≤ y383.toInt from (by first | with_reducible exact q_fe b399 | (have t1 : 0 ≤ y383.toInt := b399; omega))), (show y383.toInt ≤ 220 from (by first | with_reducible exact q_fe b400 | (have t1 : y383.toInt ≤ 220 := b400; omega))), (show 0 ≤ y384.toInt from (by first | with_reducible exact q_fe b401 | (have t1 : 0 ≤ y384.toInt := b401; omega))), (show y384.toInt ≤ 1 from (by first | with_reducible exact q_fe b402 | (have t1 : y384.toInt ≤ 1 := b402; omega))), (show 0 ≤ y227.toInt from (by first | with_reducible exact q_fe b251 | (have t1 : 0 ≤ y227.toInt := b251; omega))), (show y227.toInt ≤ 220 from (by first | with_reducible exact q_fe b252 | (have t1 : y227.toInt ≤ 220 := b252; omega))), (show 0 ≤ y228.toInt from (by first | with_reducible exact q_fe b253 | (have t1 : 0 ≤ y228.toInt := b253; omega))), (show y228.toInt ≤ 1 from (by first | with_reducible exact q_fe b254 | (have t1 : y228.toInt ≤ 1 := b254; omega))), (show 0 ≤ y207.toInt from (by first | with_reducible exact q_fe b235 | (have t1 : 0 ≤ y207.toInt := b235; omega))), (show y207.toInt ≤ 220 from (by first | with_reducible exact q_fe b236 | (have t1 : y207.toInt ≤ 220 := b236; omega))), (show 0 ≤ y208.toInt from (by first | with_reducible exact q_fe b237 | (have t1 : 0 ≤ y208.toInt := b237; omega))), (show y208.toInt ≤ 1 from (by first | with_reducible exact q_fe b238 | (have t1 : y208.toInt ≤ 1 := b238; omega))), (show 0 ≤ y202.toInt from (by first | with_reducible exact q_fe b231 | (have t1 : 0 ≤ y202.toInt := b231; omega))), (show y202.toInt ≤ 220 from (by first | with_reducible exact q_fe b232 | (have t1 : y202.toInt ≤ 220 := b232; omega))), (show 0 ≤ y203.toInt from (by first | with_reducible exact q_fe b233 | (have t1 : 0 ≤ y203.toInt := b233; omega))), (show y203.toInt ≤ 1 from (by first | with_reducible exact q_fe b234 | (have t1 : y203.toInt ≤ 1 := b234; omega))), (show 0 ≤ y212.toInt from (by first | with_reducible exact q_fe b239 | (have t1 : 0 ≤ y212.toInt := b239; omega))), (show y212.toInt ≤ 220 from (by first | with_reducible exact q_fe b240 | (have t1 : y212.toInt ≤ 220 := b240; omega))), (show 0 ≤ y213.toInt from (by first | with_reducible exact q_fe b241 | (have t1 : 0 ≤ y213.toInt := b241; omega))), (show y213.toInt ≤ 1 from (by first | with_reducible exact q_fe b242 | (have t1 : y213.toInt ≤ 1 := b242; omega))), (show 0 ≤ y388.toInt from (by first | with_reducible exact q_fe b403 | (have t1 : 0 ≤ y388.toInt := b403; omega))), (show y388.toInt ≤ 220 from (by first | with_reducible exact q_fe b404 | (have t1 : y388.toInt ≤ 220 := b404; omega))), (show 0 ≤ y389.toInt from (by first | with_reducible exact q_fe b405 | (have t1 : 0 ≤ y389.toInt := b405; omega))), (show y389.toInt ≤ 1 from (by first | with_reducible exact q_fe b406 | (have t1 : y389.toInt ≤ 1 := b406; omega))), (show 0 ≤ y222.toInt from (by first | with_reducible exact q_fe b247 | (have t1 : 0 ≤ y222.toInt := b247; omega))), (show y222.toInt ≤ 220 from (by first | with_reducible exact q_fe b248 | (have t1 : y222.toInt ≤ 220 := b248; omega))), (show 0 ≤ y223.toInt from (by first | with_reducible exact q_fe b249 | (have t1 : 0 ≤ y223.toInt := b249; omega))), (show y223.toInt ≤ 220 from (by first | with_reducible exact q_fe b250 | (have t1 : y223.toInt ≤ 220 := b250; omega))), (show 0 ≤ y393.toInt from (by first | with_reducible exact q_fe b407 | (have t1 : 0 ≤ y393.toInt := b407; omega))), (show y393.toInt ≤ 220 from (by first | with_reducible exact q_fe b408 | (have t1 : y393.toInt ≤ 220 := b408; omega))), (show 0 ≤ y394.toInt from (by first | with_reducible exact q_fe b409 | (have t1 : 0 ≤ y394.toInt := b409; omega))), (show y394.toInt ≤ 1 from (by first | with_reducible exact q_fe b410 | (have t1 : y394.toInt ≤ 1 := b410; omega))), (show y383.toInt ≤ t18_0.toInt + 219 from (by have t1 : 0 ≤ t18_0.toInt ∧ t18_0.toInt ≤ R.toInt := btt18_0; have t2 : t18_0.toInt ≠ 0 := b88; have t3 : y383.toInt ≤ 220 := b400; omega)), (show y384.toInt ≤ t18_0.toInt from (by have t1 : 0 ≤ t18_0.toInt ∧ t18_0.toInt ≤ R.toInt := btt18_0; have t2 : t18_0.toInt ≠ 0 := b88; have t3 : y384.toInt ≤ 1 := b402; omega)), (show y228.toInt ≤ t3_1.toInt from (by first | with_reducible exact q_fe b257 | (have t1 : y228.toInt ≤ t3_1.toInt := b257; omega))), (show y223.toInt ≤ t18_0.toInt + 219 from (by have t1 : 0 ≤ t18_0.toInt ∧ t18_0.toInt ≤ R.toInt := btt18_0; have t2 : t18_0.toInt ≠ 0 := b88; have t3 : y223.toInt ≤ 220 := b250; omega)), (show (a378, y380, y381, y383, y384, f385, y227, y228, f229, y207, y208, f209, y202, y203, f204, y212, y213, f214, y388, y389, f390, y222, y223, f224, y393, y394, f395) = (F_DW_squareRoot R x3 x4 t0_0 t0_1 t1_0 t1_1 t2_0 t3_0 t3_1 t4_0 t5_0 t5_1 t6_0 t7_0 t7_1 t8_0 t9_0 t9_1 t10_0 t11_0 t11_1 t12_0 t13_0 t13_1 t14_0 t15_0 t15_1 t16_0 t17_0 t17_1 t18_0 t18_1 t19_0) from Eq.trans (by rw [e429, e428, e427, e426, e425, e424, e423, e422, e421, e420, e419, e418, F_DW_squareRoot_c219.eq_1]) hR430)⟩) d_4_13_222
    ·
      intro J336
      refine lv_if_eq (tgt := 190) hx hb d_4_13_183 (by decide) (fun c435 => ?_) (fun c435 => ?_)
      ·
        refine lv_iconst (v := 0) hx hb d_4_13_190 (by decide) ?_
        exact J336 ((0 : Int32)) _ _ _ u285 ⟨(show q_F (0 ≤ 0) from (show 0 ≤ 0 from by omega)), (show q_F (0 ≤ 1) from (show 0 ≤ 1 from by omega)), V, q_lw hl (q_lw1 1 rfl (q_lw1 2 rfl (q_lw1 4 rfl (q_lw1 5 rfl q_lw0)))), (show F_DW_squareRoot_J191 R x3 x4 t0_0 t0_1 t1_0 t1_1 t2_0 t3_0 t3_1 t4_0 t5_0 t5_1 t6_0 t7_0 t7_1 t8_0 t9_0 t9_1 t10_0 t11_0 t11_1 t12_0 t13_0 t13_1 t14_0 t15_0 t15_1 t16_0 t17_0 t17_1 t18_0 t18_1 t19_0 a116 a84 j104 p133 p156 p185 a170 y172 y173 f174 p260 y227 y228 f229 y207 y208 f209 y202 y203 f204 y212 y213 f214 y222 y223 f224 p298 y288 y289 f290 0 = (F_DW_squareRoot R x3 x4 t0_0 t0_1 t1_0 t1_1 t2_0 t3_0 t3_1 t4_0 t5_0 t5_1 t6_0 t7_0 t7_1 t8_0 t9_0 t9_1 t10_0 t11_0 t11_1 t12_0 t13_0 t13_1 t14_0 t15_0 t15_1 t16_0 t17_0 t17_1 t18_0 t18_1 t19_0) from Eq.trans (by have c435x := c435; rw [e314, e302, e301, e300] at c435x; rw [e302, e301, e300, F_DW_squareRoot_c158.eq_1, if_pos c435x]) hR303), (show True ∧ S_DW_squareRoot_J191 R x3 x4 t0_0 t0_1 t1_0 t1_1 t2_0 t3_0 t3_1 t4_0 t5_0 t5_1 t6_0 t7_0 t7_1 t8_0 t9_0 t9_1 t10_0 t11_0 t11_1 t12_0 t13_0 t13_1 t14_0 t15_0 t15_1 t16_0 t17_0 t17_1 t18_0 t18_1 t19_0 a116 a84 j104 p133 p156 p185 a170 y172 y173 f174 p260 y227 y228 f229 y207 y208 f209 y202 y203 f204 y212 y213 f214 y222 y223 f224 p298 y288 y289 f290 0 from (by rw [e302, e301, e300]; have h := hS304; rw [S_DW_squareRoot_c158.eq_1] at h; have c435x := c435; rw [e314, e302, e301, e300] at c435x; rw [if_pos c435x] at h; with_reducible exact h))⟩
      ·
        refine lv_iconst (v := 1) hx hb d_4_13_186 (by decide) ?_
        refine lv_goto (tgt := 191) hx hb d_4_13_187 (by decide) ?_
        exact J336 ((1 : Int32)) _ _ _ u285 ⟨(show q_F (0 ≤ 1) from (show 0 ≤ 1 from by omega)), (show q_F (1 ≤ 1) from (show 1 ≤ 1 from by omega)), V, q_lw hl (q_lw1 1 rfl (q_lw1 2 rfl (q_lw1 4 rfl (q_lw1 5 rfl q_lw0)))), (show F_DW_squareRoot_J191 R x3 x4 t0_0 t0_1 t1_0 t1_1 t2_0 t3_0 t3_1 t4_0 t5_0 t5_1 t6_0 t7_0 t7_1 t8_0 t9_0 t9_1 t10_0 t11_0 t11_1 t12_0 t13_0 t13_1 t14_0 t15_0 t15_1 t16_0 t17_0 t17_1 t18_0 t18_1 t19_0 a116 a84 j104 p133 p156 p185 a170 y172 y173 f174 p260 y227 y228 f229 y207 y208 f209 y202 y203 f204 y212 y213 f214 y222 y223 f224 p298 y288 y289 f290 1 = (F_DW_squareRoot R x3 x4 t0_0 t0_1 t1_0 t1_1 t2_0 t3_0 t3_1 t4_0 t5_0 t5_1 t6_0 t7_0 t7_1 t8_0 t9_0 t9_1 t10_0 t11_0 t11_1 t12_0 t13_0 t13_1 t14_0 t15_0 t15_1 t16_0 t17_0 t17_1 t18_0 t18_1 t19_0) from Eq.trans (by have c435x := c435; rw [e314, e302, e301, e300] at c435x; rw [e302, e301, e300, F_DW_squareRoot_c158.eq_1, if_neg c435x]) hR303), (show True ∧ S_DW_squareRoot_J191 R x3 x4 t0_0 t0_1 t1_0 t1_1 t2_0 t3_0 t3_1 t4_0 t5_0 t5_1 t6_0 t7_0 t7_1 t8_0 t9_0 t9_1 t10_0 t11_0 t11_1 t12_0 t13_0 t13_1 t14_0 t15_0 t15_1 t16_0 t17_0 t17_1 t18_0 t18_1 t19_0 a116 a84 j104 p133 p156 p185 a170 y172 y173 f174 p260 y227 y228 f229 y207 y208 f209 y202 y203 f204 y212 y213 f214 y222 y223 f224 p298 y288 y289 f290 1 from (by rw [e302, e301, e300]; have h := hS304; rw [S_DW_squareRoot_c158.eq_1] at h; have c435x := c435; rw [e314, e302, e301, e300] at c435x; rw [if_neg c435x] at h; with_reducible exact h))⟩
  ·
    refine lv_aload_n hx hb d_4_13_20 rfl (lv_at hl 1 rfl) ?_
    refine q_get (ci := 5) (j := 2) (v := .ref (q 9)) C0 V i_DW rfl rfl hT0 (by decide) w_214 rfl d_4_13_21 ?_
    have hO439 := n_o9 hI
    refine q_get (ci := 4) (j := 0) (v := .ref (q 10)) C0 V i_Mil rfl rfl hO439 (by decide) w_111 rfl d_4_13_24 ?_
    refine q_gov V (q_runV (As := []) (rest := []) (d := 1) (mc := 0) (ms := 0) (ci := 2) C0 V rfl LV_DW_135 (X_Big_clear l D g q ws 10 220 (n_b10 g q) (by decide)  hI t1_0 t1_1 hT1  _) rfl rfl hT1 rfl hl.1 rfl (Nat.le_of_ble_eq_true rfl) ⟨by decide, by decide⟩ ⟨Nat.le_of_ble_eq_true rfl, Nat.le_of_ble_eq_true rfl⟩ d_4_13_27) (fun u440 H locs hp441 V => ?_)
    obtain ⟨hI, hZ9⟩ := hp441
    obtain ⟨hu450, hZ9⟩ := hZ9
    obtain ⟨y443, hZ9⟩ := hZ9
    obtain ⟨y444, hZ9⟩ := hZ9
    obtain ⟨hO442, hZ9⟩ := hZ9
    obtain ⟨b445, hZ9⟩ := hZ9
    obtain ⟨b446, hZ9⟩ := hZ9
    obtain ⟨b447, hZ9⟩ := hZ9
    obtain ⟨b448, hE449⟩ := hZ9
    replace hO442 : u440[10]? = (some (q 10, .inr (2, [.ref (q 11), .int y443, .int y444])) : Option (Nat × va_E)) := hO442
    obtain ⟨p451, e452⟩ : ∃ z, z = (F_Big_clear (220 : Int32) t1_0 t1_1) := ⟨_, rfl⟩
    have e453 : y443 = p451.1 := congrArg (fun z => z.1) (hE449.trans e452.symm)
    have e454 : y444 = p451.2 := congrArg (fun z => z.2) (hE449.trans e452.symm)
    replace b445 : q_F (0 ≤ y444.toInt) := b445
    replace b446 : q_F (y444.toInt ≤ 0) := b446
    replace b447 : q_F (y444.toInt ≤ y443.toInt) := b447
    replace b448 : q_F (y443.toInt ≤ y444.toInt) := b448
    replace hT0 := (hu450 _ (by decide)).trans hT0
    replace hT2 := (hu450 _ (by decide)).trans hT2
    replace hT3 := (hu450 _ (by decide)).trans hT3
    replace hT4 := (hu450 _ (by decide)).trans hT4
    replace hT5 := (hu450 _ (by decide)).trans hT5
    replace hT6 := (hu450 _ (by decide)).trans hT6
    replace hT7 := (hu450 _ (by decide)).trans hT7
    replace hT8 := (hu450 _ (by decide)).trans hT8
    replace hT9 := (hu450 _ (by decide)).trans hT9
    replace hT10 := (hu450 _ (by decide)).trans hT10
    replace hT11 := (hu450 _ (by decide)).trans hT11
    replace hT12 := (hu450 _ (by decide)).trans hT12
    replace hT13 := (hu450 _ (by decide)).trans hT13
    replace hT14 := (hu450 _ (by decide)).trans hT14
    replace hT15 := (hu450 _ (by decide)).trans hT15
    replace hT16 := (hu450 _ (by decide)).trans hT16
    replace hF := q_uc hF hu450 (by first | exact (q_sk (q_mi 0 rfl) q_s0) | simp)
    have hR455 := (show F_DW_squareRoot_c27 R x3 x4 t0_0 t0_1 t1_0 t1_1 t2_0 t3_0 t3_1 t4_0 t5_0 t5_1 t6_0 t7_0 t7_1 t8_0 t9_0 t9_1 t10_0 t11_0 t11_1 t12_0 t13_0 t13_1 t14_0 t15_0 t15_1 t16_0 t17_0 t17_1 t18_0 t18_1 t19_0 a84 p451 = (F_DW_squareRoot R x3 x4 t0_0 t0_1 t1_0 t1_1 t2_0 t3_0 t3_1 t4_0 t5_0 t5_1 t6_0 t7_0 t7_1 t8_0 t9_0 t9_1 t10_0 t11_0 t11_1 t12_0 t13_0 t13_1 t14_0 t15_0 t15_1 t16_0 t17_0 t17_1 t18_0 t18_1 t19_0) from (by rw [e452, e86, F_DW_squareRoot.eq_1, if_pos c87]))
    have hS456 := (show True ∧ S_DW_squareRoot_c27 R x3 x4 t0_0 t0_1 t1_0 t1_1 t2_0 t3_0 t3_1 t4_0 t5_0 t5_1 t6_0 t7_0 t7_1 t8_0 t9_0 t9_1 t10_0 t11_0 t11_1 t12_0 t13_0 t13_1 t14_0 t15_0 t15_1 t16_0 t17_0 t17_1 t18_0 t18_1 t19_0 a84 p451 from (by rw [e452, e86]; have h := hS; rw [S_DW_squareRoot.eq_1] at h; rw [if_pos c87] at h; with_reducible exact h))
    refine lv_aload_n hx hb d_4_13_30 rfl (lv_at hl 1 rfl) ?_
    refine lv_iload hx hb d_4_13_31 (lv_at hl 0 rfl) ?_
    refine lv_i2l hx hb d_4_13_33 rfl ?_
    obtain ⟨j460, e461⟩ := q_nm (a84.toInt64 : Int64)
    refine q_tl (v := j460) e461 ?_
    refine q_put (ci := 5) (j := 1) (v := .long j460) (ty := .long) C0 V i_DW o_DW n_DW rfl rfl hT0 (by decide) w_212 rfl rfl rfl rfl (Nat.le_of_ble_eq_true rfl) d_4_13_34 (fun H locs w463 hu464 hT0 V => ?_)
    replace hT0 : w463[30]? = (some (q 30, .inr (5, [.ref (q 31), .long j460, .ref (q 9), .int t0_1])) : Option (Nat × va_E)) := hT0
    replace hI := n_p30 hI hu464 hT0 (by first | with_reducible exact q_fe btt0_1 | exact ⟨(by have t1 : 0 ≤ t0_1.toInt ∧ t0_1.toInt ≤ 1 := btt0_1; omega), (by have t1 : 0 ≤ t0_1.toInt ∧ t0_1.toInt ≤ 1 := btt0_1; omega)⟩)
    replace hO442 := (hu464 _ (by decide)).trans hO442
    replace hT2 := (hu464 _ (by decide)).trans hT2
    replace hT3 := (hu464 _ (by decide)).trans hT3
    replace hT4 := (hu464 _ (by decide)).trans hT4
    replace hT5 := (hu464 _ (by decide)).trans hT5
    replace hT6 := (hu464 _ (by decide)).trans hT6
    replace hT7 := (hu464 _ (by decide)).trans hT7
    replace hT8 := (hu464 _ (by decide)).trans hT8
    replace hT9 := (hu464 _ (by decide)).trans hT9
    replace hT10 := (hu464 _ (by decide)).trans hT10
    replace hT11 := (hu464 _ (by decide)).trans hT11
    replace hT12 := (hu464 _ (by decide)).trans hT12
    replace hT13 := (hu464 _ (by decide)).trans hT13
    replace hT14 := (hu464 _ (by decide)).trans hT14
    replace hT15 := (hu464 _ (by decide)).trans hT15
    replace hT16 := (hu464 _ (by decide)).trans hT16
    replace hF := q_us hF hu464 (by simp)
    refine lv_iconst (v := 1) hx hb d_4_13_37 (by decide) ?_
    exact q_retz C0 V (by decide) (⟨hI, hF, j460, t0_1, y443, y444, t2_0, t3_0, t3_1, t4_0, t5_0, t5_1, t6_0, t7_0, t7_1, t8_0, t9_0, t9_1, t10_0, t11_0, t11_1, t12_0, t13_0, t13_1, t14_0, t15_0, t15_1, t16_0, hT0, hO442, hT2, hT3, hT4, hT5, hT6, hT7, hT8, hT9, hT10, hT11, hT12, hT13, hT14, hT15, hT16, (show 0 ≤ (1 : Int32).toInt from (by have z34 : (1 : Int32).toInt = 1 := rfl; omega)), (show (1 : Int32).toInt ≤ 1 from (by have z34 : (1 : Int32).toInt = 1 := rfl; omega)), (show 0 ≤ t0_1.toInt from (by have z34 : (1 : Int32).toInt = 1 := rfl; have t1 : 0 ≤ t0_1.toInt ∧ t0_1.toInt ≤ 1 := btt0_1; omega)), (show t0_1.toInt ≤ 1 from (by have z34 : (1 : Int32).toInt = 1 := rfl; have t1 : 0 ≤ t0_1.toInt ∧ t0_1.toInt ≤ 1 := btt0_1; omega)), (show 0 ≤ y443.toInt from (by have z34 : (1 : Int32).toInt = 1 := rfl; have t1 : 0 ≤ y444.toInt := b445; have t2 : y444.toInt ≤ y443.toInt := b447; omega)), (show y443.toInt ≤ 220 from (by have z34 : (1 : Int32).toInt = 1 := rfl; have t1 : y444.toInt ≤ 0 := b446; have t2 : y443.toInt ≤ y444.toInt := b448; omega)), (show 0 ≤ y444.toInt from (by have z34 : (1 : Int32).toInt = 1 := rfl; have t1 : 0 ≤ y444.toInt := b445; omega)), (show y444.toInt ≤ 1 from (by have z34 : (1 : Int32).toInt = 1 := rfl; have t1 : y444.toInt ≤ 0 := b446; omega)), (show 0 ≤ t3_0.toInt from (by have z34 : (1 : Int32).toInt = 1 := rfl; have t1 : 0 ≤ t3_0.toInt ∧ t3_0.toInt ≤ 220 := btt3_0; omega)), (show t3_0.toInt ≤ 220 from (by have z34 : (1 : Int32).toInt = 1 := rfl; have t1 : 0 ≤ t3_0.toInt ∧ t3_0.toInt ≤ 220 := btt3_0; omega)), (show 0 ≤ t3_1.toInt from (by have z34 : (1 : Int32).toInt = 1 := rfl; have t1 : 0 ≤ t3_1.toInt ∧ t3_1.toInt ≤ 1 := btt3_1; omega)), (show t3_1.toInt ≤ 1 from (by have z34 : (1 : Int32).toInt = 1 := rfl; have t1 : 0 ≤ t3_1.toInt ∧ t3_1.toInt ≤ 1 := btt3_1; omega)), (show 0 ≤ t5_0.toInt from (by have z34 : (1 : Int32).toInt = 1 := rfl; have t1 : 0 ≤ t5_0.toInt ∧ t5_0.toInt ≤ 220 := btt5_0; omega)), (show t5_0.toInt ≤ 220 from (by have z34 : (1 : Int32).toInt = 1 := rfl; have t1 : 0 ≤ t5_0.toInt ∧ t5_0.toInt ≤ 220 := btt5_0; omega)), (show 0 ≤ t5_1.toInt from (by have z34 : (1 : Int32).toInt = 1 := rfl; have t1 : 0 ≤ t5_1.toInt ∧ t5_1.toInt ≤ 1 := btt5_1; omega)), (show t5_1.toInt ≤ 1 from (by have z34 : (1 : Int32).toInt = 1 := rfl; have t1 : 0 ≤ t5_1.toInt ∧ t5_1.toInt ≤ 1 := btt5_1; omega)), (show 0 ≤ t7_0.toInt from (by have z34 : (1 : Int32).toInt = 1 := rfl; have t1 : 0 ≤ t7_0.toInt ∧ t7_0.toInt ≤ 220 := btt7_0; omega)), (show t7_0.toInt ≤ 220 from (by have z34 : (1 : Int32).toInt = 1 := rfl; have t1 : 0 ≤ t7_0.toInt ∧ t7_0.toInt ≤ 220 := btt7_0; omega)), (show 0 ≤ t7_1.toInt from (by have z34 : (1 : Int32).toInt = 1 := rfl; have t1 : 0 ≤ t7_1.toInt ∧ t7_1.toInt ≤ 1 := btt7_1; omega)), (show t7_1.toInt ≤ 1 from (by have z34 : (1 : Int32).toInt = 1 := rfl; have t1 : 0 ≤ t7_1.toInt ∧ t7_1.toInt ≤ 1 := btt7_1; omega)), (show 0 ≤ t9_0.toInt from (by have z34 : (1 : Int32).toInt = 1 := rfl; have t1 : 0 ≤ t9_0.toInt ∧ t9_0.toInt ≤ 220 := btt9_0; omega)), (show t9_0.toInt ≤ 220 from (by have z34 : (1 : Int32).toInt = 1 := rfl; have t1 : 0 ≤ t9_0.toInt ∧ t9_0.toInt ≤ 220 := btt9_0; omega)), (show 0 ≤ t9_1.toInt from (by have z34 : (1 : Int32).toInt = 1 := rfl; have t1 : 0 ≤ t9_1.toInt ∧ t9_1.toInt ≤ 1 := btt9_1; omega)), (show t9_1.toInt ≤ 1 from (by have z34 : (1 : Int32).toInt = 1 := rfl; have t1 : 0 ≤ t9_1.toInt ∧ t9_1.toInt ≤ 1 := btt9_1; omega)), (show 0 ≤ t11_0.toInt from (by have z34 : (1 : Int32).toInt = 1 := rfl; have t1 : 0 ≤ t11_0.toInt ∧ t11_0.toInt ≤ 220 := btt11_0; omega)), (show t11_0.toInt ≤ 220 from (by have z34 : (1 : Int32).toInt = 1 := rfl; have t1 : 0 ≤ t11_0.toInt ∧ t11_0.toInt ≤ 220 := btt11_0; omega)), (show 0 ≤ t11_1.toInt from (by have z34 : (1 : Int32).toInt = 1 := rfl; have t1 : 0 ≤ t11_1.toInt ∧ t11_1.toInt ≤ 1 := btt11_1; omega)), (show t11_1.toInt ≤ 1 from (by have z34 : (1 : Int32).toInt = 1 := rfl; have t1 : 0 ≤ t11_1.toInt ∧ t11_1.toInt ≤ 1 := btt11_1; omega)), (show 0 ≤ t13_0.toInt from (by have z34 : (1 : Int32).toInt = 1 := rfl; have t1 : 0 ≤ t13_0.toInt ∧ t13_0.toInt ≤ 220 := btt13_0; omega)), (show t13_0.toInt ≤ 220 from (by have z34 : (1 : Int32).toInt = 1 := rfl; have t1 : 0 ≤ t13_0.toInt ∧ t13_0.toInt ≤ 220 := btt13_0; omega)), (show 0 ≤ t13_1.toInt from (by have z34 : (1 : Int32).toInt = 1 := rfl; have t1 : 0 ≤ t13_1.toInt ∧ t13_1.toInt ≤ 1 := btt13_1; omega)), (show t13_1.toInt ≤ 220 from (by have z34 : (1 : Int32).toInt = 1 := rfl; have t1 : 0 ≤ t13_1.toInt ∧ t13_1.toInt ≤ 1 := btt13_1; omega)), (show 0 ≤ t15_0.toInt from (by have z34 : (1 : Int32).toInt = 1 := rfl; have t1 : 0 ≤ t15_0.toInt ∧ t15_0.toInt ≤ 220 := btt15_0; omega)), (show t15_0.toInt ≤ 220 from (by have z34 : (1 : Int32).toInt = 1 := rfl; have t1 : 0 ≤ t15_0.toInt ∧ t15_0.toInt ≤ 220 := btt15_0; omega)), (show 0 ≤ t15_1.toInt from (by have z34 : (1 : Int32).toInt = 1 := rfl; have t1 : 0 ≤ t15_1.toInt ∧ t15_1.toInt ≤ 1 := btt15_1; omega)), (show t15_1.toInt ≤ 1 from (by have z34 : (1 : Int32).toInt = 1 := rfl; have t1 : 0 ≤ t15_1.toInt ∧ t15_1.toInt ≤ 1 := btt15_1; omega)), (show y443.toInt ≤ t18_0.toInt + 219 from (by have z34 : (1 : Int32).toInt = 1 := rfl; have t1 : 0 ≤ t18_0.toInt ∧ t18_0.toInt ≤ R.toInt := btt18_0; have t2 : y444.toInt ≤ 0 := b446; have t3 : y443.toInt ≤ y444.toInt := b448; omega)), (show y444.toInt ≤ t18_0.toInt from (by have z34 : (1 : Int32).toInt = 1 := rfl; have t1 : 0 ≤ t18_0.toInt ∧ t18_0.toInt ≤ R.toInt := btt18_0; have t2 : y444.toInt ≤ 0 := b446; omega)), (show t3_1.toInt ≤ t3_1.toInt from (by have z34 : (1 : Int32).toInt = 1 := rfl; omega)), (show t13_1.toInt ≤ t18_0.toInt + 219 from (by have z34 : (1 : Int32).toInt = 1 := rfl; have t1 : 0 ≤ t13_1.toInt ∧ t13_1.toInt ≤ 1 := btt13_1; have t2 : 0 ≤ t18_0.toInt ∧ t18_0.toInt ≤ R.toInt := btt18_0; omega)), (show ((1 : Int32), j460, t0_1, y443, y444, t2_0, t3_0, t3_1, t4_0, t5_0, t5_1, t6_0, t7_0, t7_1, t8_0, t9_0, t9_1, t10_0, t11_0, t11_1, t12_0, t13_0, t13_1, t14_0, t15_0, t15_1, t16_0) = (F_DW_squareRoot R x3 x4 t0_0 t0_1 t1_0 t1_1 t2_0 t3_0 t3_1 t4_0 t5_0 t5_1 t6_0 t7_0 t7_1 t8_0 t9_0 t9_1 t10_0 t11_0 t11_1 t12_0 t13_0 t13_1 t14_0 t15_0 t15_1 t16_0 t17_0 t17_1 t18_0 t18_1 t19_0) from Eq.trans (by rw [← e461, e454, e453, F_DW_squareRoot_c27.eq_1]) hR455)⟩) d_4_13_38

theorem d_4_14_0 : decode prog_4_method_14_code 0 = .ok (.aload_n 0, 1) := by decide +kernel
theorem d_4_14_1 : decode prog_4_method_14_code 1 = .ok (.getfield 20, 3) := by decide +kernel
theorem d_4_14_4 : decode prog_4_method_14_code 4 = .ok (.getfield 55, 3) := by decide +kernel
theorem d_4_14_7 : decode prog_4_method_14_code 7 = .ok (.aload_n 1, 1) := by decide +kernel
theorem d_4_14_8 : decode prog_4_method_14_code 8 = .ok (.getfield 24, 3) := by decide +kernel
theorem d_4_14_11 : decode prog_4_method_14_code 11 = .ok (.invokevirtual 44, 3) := by decide +kernel
theorem d_4_14_14 : decode prog_4_method_14_code 14 = .ok (.aload_n 1, 1) := by decide +kernel
theorem d_4_14_15 : decode prog_4_method_14_code 15 = .ok (.getfield 24, 3) := by decide +kernel
theorem d_4_14_18 : decode prog_4_method_14_code 18 = .ok (.getfield 63, 3) := by decide +kernel
theorem d_4_14_41 : decode prog_4_method_14_code 41 = .ok (.aload_n 1, 1) := by decide +kernel
theorem d_4_14_42 : decode prog_4_method_14_code 42 = .ok (.getfield 24, 3) := by decide +kernel
theorem d_4_14_45 : decode prog_4_method_14_code 45 = .ok (.getfield 63, 3) := by decide +kernel
theorem d_4_14_48 : decode prog_4_method_14_code 48 = .ok (.ifCond .le 33, 3) := by decide +kernel
theorem d_4_14_81 : decode prog_4_method_14_code 81 = .ok (.iconst 1, 1) := by decide +kernel
theorem d_4_14_82 : decode prog_4_method_14_code 82 = .ok (.ireturn, 1) := by decide +kernel
theorem d_4_14_51 : decode prog_4_method_14_code 51 = .ok (.aload_n 0, 1) := by decide +kernel
theorem d_4_14_52 : decode prog_4_method_14_code 52 = .ok (.getfield 20, 3) := by decide +kernel
theorem d_4_14_55 : decode prog_4_method_14_code 55 = .ok (.getfield 55, 3) := by decide +kernel
theorem d_4_14_58 : decode prog_4_method_14_code 58 = .ok (.aload_n 1, 1) := by decide +kernel
theorem d_4_14_59 : decode prog_4_method_14_code 59 = .ok (.getfield 48, 3) := by decide +kernel
theorem d_4_14_62 : decode prog_4_method_14_code 62 = .ok (.ineg, 1) := by decide +kernel
theorem d_4_14_63 : decode prog_4_method_14_code 63 = .ok (.invokevirtual 77, 3) := by decide +kernel
theorem d_4_14_66 : decode prog_4_method_14_code 66 = .ok (.aload_n 0, 1) := by decide +kernel
theorem d_4_14_67 : decode prog_4_method_14_code 67 = .ok (.getfield 20, 3) := by decide +kernel
theorem d_4_14_70 : decode prog_4_method_14_code 70 = .ok (.getfield 55, 3) := by decide +kernel
theorem d_4_14_73 : decode prog_4_method_14_code 73 = .ok (.aload_n 1, 1) := by decide +kernel
theorem d_4_14_74 : decode prog_4_method_14_code 74 = .ok (.getfield 48, 3) := by decide +kernel
theorem d_4_14_77 : decode prog_4_method_14_code 77 = .ok (.invokevirtual 149, 3) := by decide +kernel
theorem d_4_14_80 : decode prog_4_method_14_code 80 = .ok (.pop, 1) := by decide +kernel
theorem d_4_14_21 : decode prog_4_method_14_code 21 = .ok (.ifCond .le 20, 3) := by decide +kernel
theorem d_4_14_24 : decode prog_4_method_14_code 24 = .ok (.aload_n 1, 1) := by decide +kernel
theorem d_4_14_25 : decode prog_4_method_14_code 25 = .ok (.getfield 52, 3) := by decide +kernel
theorem d_4_14_28 : decode prog_4_method_14_code 28 = .ok (.aload_n 1, 1) := by decide +kernel
theorem d_4_14_29 : decode prog_4_method_14_code 29 = .ok (.getfield 48, 3) := by decide +kernel
theorem d_4_14_32 : decode prog_4_method_14_code 32 = .ok (.isub, 1) := by decide +kernel
theorem d_4_14_33 : decode prog_4_method_14_code 33 = .ok (.sipush 1000, 3) := by decide +kernel
theorem d_4_14_36 : decode prog_4_method_14_code 36 = .ok (.if_icmp .le 5, 3) := by decide +kernel
theorem d_4_14_39 : decode prog_4_method_14_code 39 = .ok (.iconst 0, 1) := by decide +kernel
theorem d_4_14_40 : decode prog_4_method_14_code 40 = .ok (.ireturn, 1) := by decide +kernel
def y_DW_towardsZero : MethodName := ⟨"NumberHouse$DecimalWork", "towardsZero", "(LNumberHouse$Dec;)Z"⟩
def F_DW_towardsZero_c77 (R : Int32) (t0_0 : Int64) (t0_1 : Int32) (t1_0 : Int32) (t1_1 : Int32) (t2_0 : (Nat → Int32)) (t3_0 : Int32) (t3_1 : Int32) (t4_0 : Int32) (t4_1 : Int32) (t5_0 : (Nat → Int32)) (p41 : (Int32 × Int32 × (Nat → Int32))) (y30 : Int32) (y31 : Int32) (f32 : (Nat → Int32)) (p82 : (Int32 × Int32 × (Nat → Int32))) (p109 : (Int32 × Int32 × Int32 × (Nat → Int32))) : Int32 × Int32 × Int32 × (Nat → Int32) := ((1 : Int32), (p109.2.1 : Int32), (p109.2.2.1 : Int32), (p109.2.2.2 : (Nat → Int32)))
def F_DW_towardsZero_c63 (R : Int32) (t0_0 : Int64) (t0_1 : Int32) (t1_0 : Int32) (t1_1 : Int32) (t2_0 : (Nat → Int32)) (t3_0 : Int32) (t3_1 : Int32) (t4_0 : Int32) (t4_1 : Int32) (t5_0 : (Nat → Int32)) (p41 : (Int32 × Int32 × (Nat → Int32))) (y30 : Int32) (y31 : Int32) (f32 : (Nat → Int32)) (p82 : (Int32 × Int32 × (Nat → Int32))) : Int32 × Int32 × Int32 × (Nat → Int32) := F_DW_towardsZero_c77 R t0_0 t0_1 t1_0 t1_1 t2_0 t3_0 t3_1 t4_0 t4_1 t5_0 p41 y30 y31 f32 p82 ((F_Big_dropFigures (220 : Int32) t3_0 (p82.1 : Int32) (p82.2.1 : Int32) (p82.2.2 : (Nat → Int32))) : (Int32 × Int32 × Int32 × (Nat → Int32)))
def F_DW_towardsZero_J41 (R : Int32) (t0_0 : Int64) (t0_1 : Int32) (t1_0 : Int32) (t1_1 : Int32) (t2_0 : (Nat → Int32)) (t3_0 : Int32) (t3_1 : Int32) (t4_0 : Int32) (t4_1 : Int32) (t5_0 : (Nat → Int32)) (p41 : (Int32 × Int32 × (Nat → Int32))) (y30 : Int32) (y31 : Int32) (f32 : (Nat → Int32)) : Int32 × Int32 × Int32 × (Nat → Int32) := if t4_0 ≤ (0 : Int32) then (((1 : Int32), y30, y31, f32)) else (F_DW_towardsZero_c63 R t0_0 t0_1 t1_0 t1_1 t2_0 t3_0 t3_1 t4_0 t4_1 t5_0 p41 y30 y31 f32 ((F_Big_timesTen (220 : Int32) (-t3_0 : Int32) y30 y31 f32) : (Int32 × Int32 × (Nat → Int32))))
def F_DW_towardsZero_c11 (R : Int32) (t0_0 : Int64) (t0_1 : Int32) (t1_0 : Int32) (t1_1 : Int32) (t2_0 : (Nat → Int32)) (t3_0 : Int32) (t3_1 : Int32) (t4_0 : Int32) (t4_1 : Int32) (t5_0 : (Nat → Int32)) (p41 : (Int32 × Int32 × (Nat → Int32))) : Int32 × Int32 × Int32 × (Nat → Int32) := if t4_0 ≤ (0 : Int32) then (F_DW_towardsZero_J41 R t0_0 t0_1 t1_0 t1_1 t2_0 t3_0 t3_1 t4_0 t4_1 t5_0 p41 (p41.1 : Int32) (p41.2.1 : Int32) (p41.2.2 : (Nat → Int32))) else (if (t3_1 - t3_0 : Int32) ≤ (1000 : Int32) then (F_DW_towardsZero_J41 R t0_0 t0_1 t1_0 t1_1 t2_0 t3_0 t3_1 t4_0 t4_1 t5_0 p41 (p41.1 : Int32) (p41.2.1 : Int32) (p41.2.2 : (Nat → Int32))) else (((0 : Int32), (p41.1 : Int32), (p41.2.1 : Int32), (p41.2.2 : (Nat → Int32)))))
def F_DW_towardsZero (R : Int32) (t0_0 : Int64) (t0_1 : Int32) (t1_0 : Int32) (t1_1 : Int32) (t2_0 : (Nat → Int32)) (t3_0 : Int32) (t3_1 : Int32) (t4_0 : Int32) (t4_1 : Int32) (t5_0 : (Nat → Int32)) : Int32 × Int32 × Int32 × (Nat → Int32) := F_DW_towardsZero_c11 R t0_0 t0_1 t1_0 t1_1 t2_0 t3_0 t3_1 t4_0 t4_1 t5_0 ((F_Big_copy (220 : Int32) R t1_0 t1_1 t2_0 t4_0 t4_1 t5_0) : (Int32 × Int32 × (Nat → Int32)))
set_option maxRecDepth 100000 in
set_option maxHeartbeats 4000000 in
theorem X_DW_towardsZero (l : Launch) (D : va_G) (g : Nat → ClassId) (q : Nat → Nat) (ws : va_W) (k2 : Nat) (R : Int32) (hB2 : q_isDec (nsh g q) g q k2 R) (zk2 : (10 ≤ k2 ∧ k2 ≤ 31) ∨ 66 ≤ k2) (ne_k2_10 : k2 ≠ 10) (ne_k2_11 : k2 ≠ 11) (ne_k2_9 : k2 ≠ 9) (ne_k2_8 : k2 ≠ 8) (ne_k2_30 : k2 ≠ 30) (ne_k2_31 : k2 ≠ 31) (ne_k2_29 : k2 ≠ 29) (ne_k2_28 : k2 ≠ 28) (hI : q_I (nsh g q) q ws) (t0_0 : Int64) (t0_1 : Int32) (hT0 : ws[30]? = (some (q 30, .inr (5, [.ref (q 31), .long t0_0, .ref (q 9), .int t0_1])) : Option (Nat × va_E))) (t1_0 : Int32) (t1_1 : Int32) (hT1 : ws[10]? = (some (q 10, .inr (2, [.ref (q 11), .int t1_0, .int t1_1])) : Option (Nat × va_E))) (t2_0 : (Nat → Int32)) (hT2 : ws[11]? = (some (q 11, .inl (g 0, (220 : Int32).toNatClampNeg, .inl t2_0)) : Option (Nat × va_E))) (t3_0 : Int32) (t3_1 : Int32) (hT3 : ws[k2]? = (some (q k2, .inr (3, [.ref (q (k2 + 1)), .int t3_0, .int t3_1])) : Option (Nat × va_E))) (t4_0 : Int32) (t4_1 : Int32) (hT4 : ws[k2 + 1]? = (some (q (k2 + 1), .inr (2, [.ref (q (k2 + 2)), .int t4_0, .int t4_1])) : Option (Nat × va_E))) (t5_0 : (Nat → Int32)) (hT5 : ws[k2 + 2]? = (some (q (k2 + 2), .inl (g 0, R.toNatClampNeg, .inl t5_0)) : Option (Nat × va_E))) : q_mI l y_DW_towardsZero prog_4_method_14_code 2 (.boolean) 4 0 0 D g [.ref (q 30), .ref (q k2)] ws (fun r u => q_I (nsh g q) q u ∧ q_un ws u [10, 11] ∧ ∃ (u1_0 : Int32) (u1_1 : Int32) (u2_0 : (Nat → Int32)), u[10]? = (some (q 10, .inr (2, [.ref (q 11), .int u1_0, .int u1_1])) : Option (Nat × va_E)) ∧ u[11]? = (some (q 11, .inl (g 0, (220 : Int32).toNatClampNeg, .inl u2_0)) : Option (Nat × va_E)) ∧ (0 ≤ r.toInt) ∧ (r.toInt ≤ 1) ∧ (0 ≤ u1_0.toInt) ∧ (u1_0.toInt ≤ 220) ∧ (0 ≤ u1_1.toInt) ∧ (t3_0.toInt ≤ r.toInt + 9999) ∧ (u1_0.toInt ≤ t4_0.toInt + 219) ∧ (u1_1.toInt ≤ t4_1.toInt) ∧ (r, u1_0, u1_1, u2_0) = (F_DW_towardsZero R t0_0 t0_1 t1_0 t1_1 t2_0 t3_0 t3_1 t4_0 t4_1 t5_0)) := by
  intro sz
  refine q_into (by decide) (Nat.le_of_ble_eq_true rfl) ?_
  intro p e s m below meth c ls hsz C0 V hl
  have hx := C0.1
  have hb := C0.2.1
  have btt0_1 := n_w30 hI hT0
  clear btt0_1
  have btt1_1 := (q_bigW hI (n_b10 g q) hT1).2
  clear btt1_1
  obtain ⟨btt3_0, btt3_1⟩ := n_deW hI hB2 hT3
  replace btt3_0 : q_F (-10000 ≤ t3_0.toInt ∧ t3_0.toInt ≤ 10000) := btt3_0
  replace btt3_1 : q_F (1 ≤ t3_1.toInt ∧ t3_1.toInt ≤ 1000) := btt3_1
  have btt4_1 := (q_bigW hI hB2.2 hT4).2
  replace btt4_1 : q_F (0 ≤ t4_1.toInt ∧ t4_1.toInt ≤ 1) := btt4_1
  have hF : q_un ws ws [10, 11] := q_u0
  have hl : lv_has ls 2 [(0, .ref (q 30)), (1, .ref (q k2))] := hl
  refine lv_aload_n hx hb d_4_14_0 rfl (lv_at hl 0 rfl) ?_
  refine q_get (ci := 5) (j := 2) (v := .ref (q 9)) C0 V i_DW rfl rfl hT0 (by decide) w_214 rfl d_4_14_1 ?_
  have hO26 := n_o9 hI
  refine q_get (ci := 4) (j := 0) (v := .ref (q 10)) C0 V i_Mil rfl rfl hO26 (by decide) w_111 rfl d_4_14_4 ?_
  refine lv_aload_n hx hb d_4_14_7 rfl (lv_at hl 1 rfl) ?_
  refine q_get (ci := 3) (j := 0) (v := .ref (q (k2 + 1))) C0 V i_Dec rfl rfl hT3 (by decide) w_171 rfl d_4_14_8 ?_
  refine q_gov V (q_runV (As := [.ref (q (k2 + 1))]) (rest := []) (d := 2) (mc := 0) (ms := 0) (ci := 2) C0 V rfl LV_DW_44 (X_Big_copy l D g q ws 10 220 (n_b10 g q) (by decide) (k2 + 1) R hB2.2 (by have z := zk2; omega)  (by have z := ne_k2_9; omega) hI t1_0 t1_1 hT1 t2_0 hT2 t4_0 t4_1 hT4 t5_0 hT5  _) rfl rfl hT1 rfl hl.1 rfl (Nat.le_of_ble_eq_true rfl) ⟨by decide, by decide⟩ ⟨Nat.le_of_ble_eq_true rfl, Nat.le_of_ble_eq_true rfl⟩ d_4_14_11) (fun u27 H locs hp28 V => ?_)
  obtain ⟨hI, hZ9⟩ := hp28
  obtain ⟨hu40, hZ9⟩ := hZ9
  obtain ⟨y30, hZ9⟩ := hZ9
  obtain ⟨y31, hZ9⟩ := hZ9
  obtain ⟨f32, hZ9⟩ := hZ9
  obtain ⟨hO29, hZ9⟩ := hZ9
  obtain ⟨hA33, hZ9⟩ := hZ9
  obtain ⟨b34, hZ9⟩ := hZ9
  obtain ⟨b35, hZ9⟩ := hZ9
  obtain ⟨b36, hZ9⟩ := hZ9
  obtain ⟨b37, hZ9⟩ := hZ9
  obtain ⟨b38, hE39⟩ := hZ9
  replace hO29 : u27[10]? = (some (q 10, .inr (2, [.ref (q 11), .int y30, .int y31])) : Option (Nat × va_E)) := hO29
  replace hA33 : u27[11]? = (some (q 11, .inl (g 0, (220 : Int32).toNatClampNeg, .inl f32)) : Option (Nat × va_E)) := hA33
  obtain ⟨p41, e42⟩ : ∃ z, z = (F_Big_copy (220 : Int32) R t1_0 t1_1 t2_0 t4_0 t4_1 t5_0) := ⟨_, rfl⟩
  have e43 : y30 = p41.1 := congrArg (fun z => z.1) (hE39.trans e42.symm)
  have e44 : y31 = p41.2.1 := congrArg (fun z => z.2.1) (hE39.trans e42.symm)
  have e45 : f32 = p41.2.2 := congrArg (fun z => z.2.2) (hE39.trans e42.symm)
  replace b34 : q_F (0 ≤ y30.toInt) := b34
  replace b35 : q_F (y30.toInt ≤ t4_0.toInt) := b35
  replace b36 : q_F (y30.toInt ≤ 220) := b36
  replace b37 : q_F (t4_1.toInt ≤ y31.toInt) := b37
  replace b38 : q_F (y31.toInt ≤ t4_1.toInt) := b38
  replace hT0 := (hu40 _ (by decide)).trans hT0
  replace hT3 := (hu40 _ (by have z0 := zk2; simp only [List.mem_cons, List.not_mem_nil, or_false, not_or]; omega)).trans hT3
  replace hT4 := (hu40 _ (by have z0 := zk2; simp only [List.mem_cons, List.not_mem_nil, or_false, not_or]; omega)).trans hT4
  replace hO26 := (hu40 _ (by decide)).trans hO26
  replace hF := q_uc hF hu40 (by first | exact (q_sk (q_mi 0 rfl) (q_sk (q_mi 1 rfl) q_s0)) | simp)
  have hR46 := (show F_DW_towardsZero_c11 R t0_0 t0_1 t1_0 t1_1 t2_0 t3_0 t3_1 t4_0 t4_1 t5_0 p41 = (F_DW_towardsZero R t0_0 t0_1 t1_0 t1_1 t2_0 t3_0 t3_1 t4_0 t4_1 t5_0) from (by rw [e42, F_DW_towardsZero.eq_1]))
  refine lv_aload_n hx hb d_4_14_14 rfl (lv_at hl 1 rfl) ?_
  refine q_get (ci := 3) (j := 0) (v := .ref (q (k2 + 1))) C0 V i_Dec rfl rfl hT3 (by decide) w_171 rfl d_4_14_15 ?_
  refine q_get (ci := 2) (j := 1) (v := .int t4_0) C0 V i_Big rfl rfl hT4 (by decide) w_90 rfl d_4_14_18 ?_
  refine q_join (X := Unit) (fun z H locs ls _ => q_Wd D g (va_A ws sz) s u27 H locs ∧ lv_has ls 2 [(0, .ref (q 30)), (1, .ref (q k2))] ∧ F_DW_towardsZero_J41 R t0_0 t0_1 t1_0 t1_1 t2_0 t3_0 t3_1 t4_0 t4_1 t5_0 p41 y30 y31 f32 = (F_DW_towardsZero R t0_0 t0_1 t1_0 t1_1 t2_0 t3_0 t3_1 t4_0 t4_1 t5_0)) (fun z => []) 41 0 0 ?_ ?_
  ·
    rintro _ H locs ls _ ⟨V, hl, hR58⟩
    replace hl : lv_has ls 2 [(0, .ref (q 30)), (1, .ref (q k2))] := hl
    refine lv_aload_n hx hb d_4_14_41 rfl (lv_at hl 1 rfl) ?_
    refine q_get (ci := 3) (j := 0) (v := .ref (q (k2 + 1))) C0 V i_Dec rfl rfl hT3 (by decide) w_171 rfl d_4_14_42 ?_
    refine q_get (ci := 2) (j := 1) (v := .int t4_0) C0 V i_Big rfl rfl hT4 (by decide) w_90 rfl d_4_14_45 ?_
    refine lv_if_le (tgt := 81) hx hb d_4_14_48 (by decide) (fun c63 => ?_) (fun c63 => ?_)
    ·
      refine lv_iconst (v := 1) hx hb d_4_14_81 (by decide) ?_
      exact q_retz C0 V (by decide) (⟨hI, hF, y30, y31, f32, hO29, hA33, (show 0 ≤ (1 : Int32).toInt from (by have z11 : (1 : Int32).toInt = 1 := rfl; omega)), (show (1 : Int32).toInt ≤ 1 from (by have z11 : (1 : Int32).toInt = 1 := rfl; omega)), (show 0 ≤ y30.toInt from (by have z11 : (1 : Int32).toInt = 1 := rfl; have t1 : 0 ≤ y30.toInt := b34; omega)), (show y30.toInt ≤ 220 from (by have z11 : (1 : Int32).toInt = 1 := rfl; have t1 : y30.toInt ≤ 220 := b36; omega)), (show 0 ≤ y31.toInt from (by have z11 : (1 : Int32).toInt = 1 := rfl; have t1 : 0 ≤ t4_1.toInt ∧ t4_1.toInt ≤ 1 := btt4_1; have t2 : t4_1.toInt ≤ y31.toInt := b37; omega)), (show t3_0.toInt ≤ (1 : Int32).toInt + 9999 from (by have z11 : (1 : Int32).toInt = 1 := rfl; have t1 : -10000 ≤ t3_0.toInt ∧ t3_0.toInt ≤ 10000 := btt3_0; omega)), (show y30.toInt ≤ t4_0.toInt + 219 from (by have z11 : (1 : Int32).toInt = 1 := rfl; have t1 : y30.toInt ≤ t4_0.toInt := b35; omega)), (show y31.toInt ≤ t4_1.toInt from (by have z11 : (1 : Int32).toInt = 1 := rfl; have t1 : y31.toInt ≤ t4_1.toInt := b38; omega)), (show ((1 : Int32), y30, y31, f32) = (F_DW_towardsZero R t0_0 t0_1 t1_0 t1_1 t2_0 t3_0 t3_1 t4_0 t4_1 t5_0) from Eq.trans (by rw [F_DW_towardsZero_J41.eq_1, if_pos c63]) hR58)⟩) d_4_14_82
    ·
      have b65 : q_F (0 < t4_0.toInt) := (q_nleI c63)
      refine lv_aload_n hx hb d_4_14_51 rfl (lv_at hl 0 rfl) ?_
      refine q_get (ci := 5) (j := 2) (v := .ref (q 9)) C0 V i_DW rfl rfl hT0 (by decide) w_214 rfl d_4_14_52 ?_
      refine q_get (ci := 4) (j := 0) (v := .ref (q 10)) C0 V i_Mil rfl rfl hO26 (by decide) w_111 rfl d_4_14_55 ?_
      refine lv_aload_n hx hb d_4_14_58 rfl (lv_at hl 1 rfl) ?_
      refine q_get (ci := 3) (j := 1) (v := .int t3_0) C0 V i_Dec rfl rfl hT3 (by decide) w_176 rfl d_4_14_59 ?_
      refine lv_ineg hx hb d_4_14_62 ?_
      obtain ⟨a66, e67⟩ := q_nm (-t3_0 : Int32)
      refine q_ti (v := a66) e67 ?_
      refine q_gov V (q_runV (As := [.int a66]) (rest := []) (d := 2) (mc := 0) (ms := 0) (ci := 2) C0 V rfl LV_DW_77 (X_Big_timesTen l D g q u27 10 220 (n_b10 g q) (by decide) a66 hI y30 y31 hO29 f32 hA33  _) rfl rfl hO29 rfl hl.1 rfl (Nat.le_of_ble_eq_true rfl) ⟨by decide, by decide⟩ ⟨Nat.le_of_ble_eq_true rfl, Nat.le_of_ble_eq_true rfl⟩ d_4_14_63) (fun u69 H locs hp70 V => ?_)
      obtain ⟨hI, hZ9⟩ := hp70
      obtain ⟨hu81, hZ9⟩ := hZ9
      obtain ⟨y72, hZ9⟩ := hZ9
      obtain ⟨y73, hZ9⟩ := hZ9
      obtain ⟨f74, hZ9⟩ := hZ9
      obtain ⟨hO71, hZ9⟩ := hZ9
      obtain ⟨hA75, hZ9⟩ := hZ9
      replace hZ9 := hZ9.2
      obtain ⟨b77, hZ9⟩ := hZ9
      replace hZ9 := hZ9.2
      obtain ⟨b79, hE80⟩ := hZ9
      replace hO71 : u69[10]? = (some (q 10, .inr (2, [.ref (q 11), .int y72, .int y73])) : Option (Nat × va_E)) := hO71
      replace hA75 : u69[11]? = (some (q 11, .inl (g 0, (220 : Int32).toNatClampNeg, .inl f74)) : Option (Nat × va_E)) := hA75
      obtain ⟨p82, e83⟩ : ∃ z, z = (F_Big_timesTen (220 : Int32) a66 y30 y31 f32) := ⟨_, rfl⟩
      have e84 : y72 = p82.1 := congrArg (fun z => z.1) (hE80.trans e83.symm)
      have e85 : y73 = p82.2.1 := congrArg (fun z => z.2.1) (hE80.trans e83.symm)
      have e86 : f74 = p82.2.2 := congrArg (fun z => z.2.2) (hE80.trans e83.symm)
      replace b77 : q_F (y72.toInt ≤ 220) := b77
      replace b79 : q_F (y73.toInt ≤ y31.toInt) := b79
      replace hT0 := (hu81 _ (by decide)).trans hT0
      replace hT3 := (hu81 _ (by have z0 := zk2; simp only [List.mem_cons, List.not_mem_nil, or_false, not_or]; omega)).trans hT3
      replace hO26 := (hu81 _ (by decide)).trans hO26
      replace hF := q_uc hF hu81 (by first | exact (q_sk (q_mi 0 rfl) (q_sk (q_mi 1 rfl) q_s0)) | simp)
      have hR87 := (show F_DW_towardsZero_c63 R t0_0 t0_1 t1_0 t1_1 t2_0 t3_0 t3_1 t4_0 t4_1 t5_0 p41 y30 y31 f32 p82 = (F_DW_towardsZero R t0_0 t0_1 t1_0 t1_1 t2_0 t3_0 t3_1 t4_0 t4_1 t5_0) from Eq.trans (by rw [e83, ← e67, F_DW_towardsZero_J41.eq_1, if_neg c63]) hR58)
      refine lv_aload_n hx hb d_4_14_66 rfl (lv_at hl 0 rfl) ?_
      refine q_get (ci := 5) (j := 2) (v := .ref (q 9)) C0 V i_DW rfl rfl hT0 (by decide) w_214 rfl d_4_14_67 ?_
      refine q_get (ci := 4) (j := 0) (v := .ref (q 10)) C0 V i_Mil rfl rfl hO26 (by decide) w_111 rfl d_4_14_70 ?_
      refine lv_aload_n hx hb d_4_14_73 rfl (lv_at hl 1 rfl) ?_
      refine q_get (ci := 3) (j := 1) (v := .int t3_0) C0 V i_Dec rfl rfl hT3 (by decide) w_176 rfl d_4_14_74 ?_
      refine q_goi V (q_runV (As := [.int t3_0]) (rest := []) (d := 3) (mc := 0) (ms := 0) (ci := 2) C0 V rfl LV_DW_149 (X_Big_dropFigures l D g q u69 10 220 (n_b10 g q) (by decide) t3_0 hI y72 y73 hO71 f74 hA75  _) rfl rfl hO71 rfl hl.1 rfl (Nat.le_of_ble_eq_true rfl) ⟨by decide, by decide⟩ ⟨Nat.le_of_ble_eq_true rfl, Nat.le_of_ble_eq_true rfl⟩ d_4_14_77) (fun a94 u92 H locs hp93 V => ?_)
      obtain ⟨hI, hZ9⟩ := hp93
      obtain ⟨hu108, hZ9⟩ := hZ9
      obtain ⟨y96, hZ9⟩ := hZ9
      obtain ⟨y97, hZ9⟩ := hZ9
      obtain ⟨f98, hZ9⟩ := hZ9
      obtain ⟨hO95, hZ9⟩ := hZ9
      obtain ⟨hA99, hZ9⟩ := hZ9
      replace hZ9 := hZ9.2.2
      obtain ⟨b102, hZ9⟩ := hZ9
      obtain ⟨b103, hZ9⟩ := hZ9
      replace hZ9 := hZ9.2
      obtain ⟨b105, hZ9⟩ := hZ9
      obtain ⟨b106, hE107⟩ := hZ9
      replace hO95 : u92[10]? = (some (q 10, .inr (2, [.ref (q 11), .int y96, .int y97])) : Option (Nat × va_E)) := hO95
      replace hA99 : u92[11]? = (some (q 11, .inl (g 0, (220 : Int32).toNatClampNeg, .inl f98)) : Option (Nat × va_E)) := hA99
      obtain ⟨p109, e110⟩ : ∃ z, z = (F_Big_dropFigures (220 : Int32) t3_0 y72 y73 f74) := ⟨_, rfl⟩
      have e111 : a94 = p109.1 := congrArg (fun z => z.1) (hE107.trans e110.symm)
      have e112 : y96 = p109.2.1 := congrArg (fun z => z.2.1) (hE107.trans e110.symm)
      have e113 : y97 = p109.2.2.1 := congrArg (fun z => z.2.2.1) (hE107.trans e110.symm)
      have e114 : f98 = p109.2.2.2 := congrArg (fun z => z.2.2.2) (hE107.trans e110.symm)
      replace b102 : q_F (0 ≤ y96.toInt) := b102
      replace b103 : q_F (0 ≤ y97.toInt) := b103
      replace b105 : q_F (y96.toInt ≤ y72.toInt) := b105
      replace b106 : q_F (y97.toInt ≤ y73.toInt) := b106
      replace hF := q_uc hF hu108 (by first | exact (q_sk (q_mi 0 rfl) (q_sk (q_mi 1 rfl) q_s0)) | simp)
      have hR115 := (show F_DW_towardsZero_c77 R t0_0 t0_1 t1_0 t1_1 t2_0 t3_0 t3_1 t4_0 t4_1 t5_0 p41 y30 y31 f32 p82 p109 = (F_DW_towardsZero R t0_0 t0_1 t1_0 t1_1 t2_0 t3_0 t3_1 t4_0 t4_1 t5_0) from Eq.trans (by rw [e110, e86, e85, e84, F_DW_towardsZero_c63.eq_1]) hR87)
      refine lv_pop hx hb d_4_14_80 rfl ?_
      refine lv_iconst (v := 1) hx hb d_4_14_81 (by decide) ?_
      exact q_retz C0 V (by decide) (⟨hI, hF, y96, y97, f98, hO95, hA99, (show 0 ≤ (1 : Int32).toInt from (by have z11 : (1 : Int32).toInt = 1 := rfl; omega)), (show (1 : Int32).toInt ≤ 1 from (by have z11 : (1 : Int32).toInt = 1 := rfl; omega)), (show 0 ≤ y96.toInt from (by have z11 : (1 : Int32).toInt = 1 := rfl; have t1 : 0 ≤ y96.toInt := b102; omega)), (show y96.toInt ≤ 220 from (by have z11 : (1 : Int32).toInt = 1 := rfl; have t1 : y72.toInt ≤ 220 := b77; have t2 : y96.toInt ≤ y72.toInt := b105; omega)), (show 0 ≤ y97.toInt from (by have z11 : (1 : Int32).toInt = 1 := rfl; have t1 : 0 ≤ y97.toInt := b103; omega)), (show t3_0.toInt ≤ (1 : Int32).toInt + 9999 from (by have z11 : (1 : Int32).toInt = 1 := rfl; have t1 : -10000 ≤ t3_0.toInt ∧ t3_0.toInt ≤ 10000 := btt3_0; omega)), (show y96.toInt ≤ t4_0.toInt + 219 from (by have z11 : (1 : Int32).toInt = 1 := rfl; have t1 : 0 < t4_0.toInt := b65; have t2 : y72.toInt ≤ 220 := b77; have t3 : y96.toInt ≤ y72.toInt := b105; omega)), (show y97.toInt ≤ t4_1.toInt from (by have z11 : (1 : Int32).toInt = 1 := rfl; have t1 : y31.toInt ≤ t4_1.toInt := b38; have t2 : y73.toInt ≤ y31.toInt := b79; have t3 : y97.toInt ≤ y73.toInt := b106; omega)), (show ((1 : Int32), y96, y97, f98) = (F_DW_towardsZero R t0_0 t0_1 t1_0 t1_1 t2_0 t3_0 t3_1 t4_0 t4_1 t5_0) from Eq.trans (by rw [e114, e113, e112, F_DW_towardsZero_c77.eq_1]) hR115)⟩) d_4_14_82
  ·
    intro J57
    refine lv_if_le (tgt := 41) hx hb d_4_14_21 (by decide) (fun c120 => ?_) (fun c120 => ?_)
    ·
      exact J57 (()) _ _ _ u27 ⟨V, q_lw hl (q_lw1 0 rfl (q_lw1 1 rfl q_lw0)), (show F_DW_towardsZero_J41 R t0_0 t0_1 t1_0 t1_1 t2_0 t3_0 t3_1 t4_0 t4_1 t5_0 p41 y30 y31 f32 = (F_DW_towardsZero R t0_0 t0_1 t1_0 t1_1 t2_0 t3_0 t3_1 t4_0 t4_1 t5_0) from Eq.trans (by rw [e45, e44, e43, F_DW_towardsZero_c11.eq_1, if_pos c120]) hR46)⟩
    ·
      refine lv_aload_n hx hb d_4_14_24 rfl (lv_at hl 1 rfl) ?_
      refine q_get (ci := 3) (j := 2) (v := .int t3_1) C0 V i_Dec rfl rfl hT3 (by decide) w_180 rfl d_4_14_25 ?_
      refine lv_aload_n hx hb d_4_14_28 rfl (lv_at hl 1 rfl) ?_
      refine q_get (ci := 3) (j := 1) (v := .int t3_0) C0 V i_Dec rfl rfl hT3 (by decide) w_176 rfl d_4_14_29 ?_
      refine lv_isub hx hb d_4_14_32 ?_
      obtain ⟨a123, e124⟩ := q_nm (t3_1 - t3_0 : Int32)
      refine q_ti (v := a123) e124 ?_
      have b125 : q_F (a123.toInt = t3_1.toInt - t3_0.toInt) := (by rw [← e124]; show (t3_1 - t3_0 : Int32).toInt = t3_1.toInt - t3_0.toInt; exact q_subI (x := t3_1.toInt) (y := t3_0.toInt) rfl rfl (by have t1 : -10000 ≤ t3_0.toInt ∧ t3_0.toInt ≤ 10000 := btt3_0; have t2 : 1 ≤ t3_1.toInt ∧ t3_1.toInt ≤ 1000 := btt3_1; omega) (by have t1 : -10000 ≤ t3_0.toInt ∧ t3_0.toInt ≤ 10000 := btt3_0; have t2 : 1 ≤ t3_1.toInt ∧ t3_1.toInt ≤ 1000 := btt3_1; omega))
      refine lv_sipush (v := 1000) hx hb d_4_14_33 (by decide) ?_
      refine lv_icmp_le (tgt := 41) hx hb d_4_14_36 (by decide) (fun c126 => ?_) (fun c126 => ?_)
      ·
        exact J57 (()) _ _ _ u27 ⟨V, q_lw hl (q_lw1 0 rfl (q_lw1 1 rfl q_lw0)), (show F_DW_towardsZero_J41 R t0_0 t0_1 t1_0 t1_1 t2_0 t3_0 t3_1 t4_0 t4_1 t5_0 p41 y30 y31 f32 = (F_DW_towardsZero R t0_0 t0_1 t1_0 t1_1 t2_0 t3_0 t3_1 t4_0 t4_1 t5_0) from Eq.trans (by have c126x := c126; rw [← e124] at c126x; rw [e45, e44, e43, F_DW_towardsZero_c11.eq_1, if_neg c120, if_pos c126x]) hR46)⟩
      ·
        have b128 : q_F (1000 < a123.toInt) := (q_nleI c126)
        refine lv_iconst (v := 0) hx hb d_4_14_39 (by decide) ?_
        exact q_retz C0 V (by decide) (⟨hI, hF, y30, y31, f32, hO29, hA33, (show 0 ≤ (0 : Int32).toInt from (by have z11 : (0 : Int32).toInt = 0 := rfl; omega)), (show (0 : Int32).toInt ≤ 1 from (by have z11 : (0 : Int32).toInt = 0 := rfl; omega)), (show 0 ≤ y30.toInt from (by have z11 : (0 : Int32).toInt = 0 := rfl; have t1 : 0 ≤ y30.toInt := b34; omega)), (show y30.toInt ≤ 220 from (by have z11 : (0 : Int32).toInt = 0 := rfl; have t1 : y30.toInt ≤ 220 := b36; omega)), (show 0 ≤ y31.toInt from (by have z11 : (0 : Int32).toInt = 0 := rfl; have t1 : 0 ≤ t4_1.toInt ∧ t4_1.toInt ≤ 1 := btt4_1; have t2 : t4_1.toInt ≤ y31.toInt := b37; omega)), (show t3_0.toInt ≤ (0 : Int32).toInt + 9999 from (by have z11 : (0 : Int32).toInt = 0 := rfl; have t1 : 1 ≤ t3_1.toInt ∧ t3_1.toInt ≤ 1000 := btt3_1; have t2 : a123.toInt = t3_1.toInt - t3_0.toInt := b125; have t3 : 1000 < a123.toInt := b128; omega)), (show y30.toInt ≤ t4_0.toInt + 219 from (by have z11 : (0 : Int32).toInt = 0 := rfl; have t1 : y30.toInt ≤ t4_0.toInt := b35; omega)), (show y31.toInt ≤ t4_1.toInt from (by have z11 : (0 : Int32).toInt = 0 := rfl; have t1 : y31.toInt ≤ t4_1.toInt := b38; omega)), (show ((0 : Int32), y30, y31, f32) = (F_DW_towardsZero R t0_0 t0_1 t1_0 t1_1 t2_0 t3_0 t3_1 t4_0 t4_1 t5_0) from Eq.trans (by have c126x := c126; rw [← e124] at c126x; rw [e45, e44, e43, F_DW_towardsZero_c11.eq_1, if_neg c120, if_neg c126x]) hR46)⟩) d_4_14_40

