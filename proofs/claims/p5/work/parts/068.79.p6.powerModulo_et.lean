/-! NumberHouse, exactly: p6.powerModulo_et -/
def F_NH_powerModulo_et_c142 (x2 : Int32) (x3 : Int32) (x4 : Int32) (x5 : Int32) (t0_0 : Int32) (t0_1 : Int32) (t1_0 : (Nat → Int32)) (t2_0 : Int32) (t2_1 : Int32) (t3_0 : (Nat → Int32)) (t4_0 : Int32) (t4_1 : Int32) (t5_0 : (Nat → Int32)) (t6_0 : Int32) (t6_1 : Int32) (t7_0 : (Nat → Int32)) (t8_0 : Int32) (t8_1 : Int32) (t9_0 : (Nat → Int32)) (t10_0 : Int32) (t10_1 : Int32) (t11_0 : (Nat → Int32)) (t12_0 : Int32) (t12_1 : Int32) (t13_0 : (Nat → Int32)) (t14_0 : Int32) (t14_1 : Int32) (t15_0 : (Nat → Int32)) (t16_0 : Int32) (t16_1 : Int32) (t17_0 : (Nat → Int32)) (t18_0 : Int32) (t18_1 : Int32) (t19_0 : (Nat → Int32)) (lx88 : Int32) (lx140 : Int32) (p229 : (Int32 × Int32 × (Nat → Int32) × Int32 × Int32 × (Nat → Int32) × Int32 × Int32 × (Nat → Int32))) (p300 : (Int32 × Int32 × (Nat → Int32) × Int32 × Int32 × (Nat → Int32) × Int32 × Int32 × (Nat → Int32) × Int32 × Int32 × (Nat → Int32) × Int32 × Int32 × (Nat → Int32))) (y255 : Int32) (y256 : Int32) (f257 : (Nat → Int32)) (y260 : Int32) (y261 : Int32) (f262 : (Nat → Int32)) (y265 : Int32) (y266 : Int32) (f267 : (Nat → Int32)) (y270 : Int32) (y271 : Int32) (f272 : (Nat → Int32)) (p335 : (Int32 × Int32 × Int32 × (Nat → Int32))) : Int32 × Int32 × Int32 × (Nat → Int32) × Int32 × Int32 × (Nat → Int32) × Int32 × Int32 × (Nat → Int32) × Int32 × Int32 × (Nat → Int32) × Int32 × Int32 × (Nat → Int32) × Int32 × Int32 × (Nat → Int32) × Int32 × Int32 × (Nat → Int32) × Int32 × Int32 × (Nat → Int32) × Int32 × Int32 × (Nat → Int32) := if p335.1 = (0 : Int32) then (((0 : Int32), y255, y256, f257, y260, y261, f262, y265, y266, f267, y270, y271, f272, t8_0, t8_1, t9_0, t10_0, t10_1, t11_0, t12_0, t12_1, t13_0, t14_0, t14_1, t15_0, (p335.2.1 : Int32), (p335.2.2.1 : Int32), (p335.2.2.2 : (Nat → Int32)))) else ((p335.1, y255, y256, f257, y260, y261, f262, y265, y266, f267, y270, y271, f272, t8_0, t8_1, t9_0, t10_0, t10_1, t11_0, t12_0, t12_1, t13_0, t14_0, t14_1, t15_0, (p335.2.1 : Int32), (p335.2.2.1 : Int32), (p335.2.2.2 : (Nat → Int32))))
def F_NH_powerModulo_et_c136 (x2 : Int32) (x3 : Int32) (x4 : Int32) (x5 : Int32) (t0_0 : Int32) (t0_1 : Int32) (t1_0 : (Nat → Int32)) (t2_0 : Int32) (t2_1 : Int32) (t3_0 : (Nat → Int32)) (t4_0 : Int32) (t4_1 : Int32) (t5_0 : (Nat → Int32)) (t6_0 : Int32) (t6_1 : Int32) (t7_0 : (Nat → Int32)) (t8_0 : Int32) (t8_1 : Int32) (t9_0 : (Nat → Int32)) (t10_0 : Int32) (t10_1 : Int32) (t11_0 : (Nat → Int32)) (t12_0 : Int32) (t12_1 : Int32) (t13_0 : (Nat → Int32)) (t14_0 : Int32) (t14_1 : Int32) (t15_0 : (Nat → Int32)) (t16_0 : Int32) (t16_1 : Int32) (t17_0 : (Nat → Int32)) (t18_0 : Int32) (t18_1 : Int32) (t19_0 : (Nat → Int32)) (lx88 : Int32) (lx140 : Int32) (p229 : (Int32 × Int32 × (Nat → Int32) × Int32 × Int32 × (Nat → Int32) × Int32 × Int32 × (Nat → Int32))) (p300 : (Int32 × Int32 × (Nat → Int32) × Int32 × Int32 × (Nat → Int32) × Int32 × Int32 × (Nat → Int32) × Int32 × Int32 × (Nat → Int32) × Int32 × Int32 × (Nat → Int32))) : Int32 × Int32 × Int32 × (Nat → Int32) × Int32 × Int32 × (Nat → Int32) × Int32 × Int32 × (Nat → Int32) × Int32 × Int32 × (Nat → Int32) × Int32 × Int32 × (Nat → Int32) × Int32 × Int32 × (Nat → Int32) × Int32 × Int32 × (Nat → Int32) × Int32 × Int32 × (Nat → Int32) × Int32 × Int32 × (Nat → Int32) := F_NH_powerModulo_et_c142 x2 x3 x4 x5 t0_0 t0_1 t1_0 t2_0 t2_1 t3_0 t4_0 t4_1 t5_0 t6_0 t6_1 t7_0 t8_0 t8_1 t9_0 t10_0 t10_1 t11_0 t12_0 t12_1 t13_0 t14_0 t14_1 t15_0 t16_0 t16_1 t17_0 t18_0 t18_1 t19_0 lx88 lx140 p229 p300 (p300.1 : Int32) (p300.2.1 : Int32) (p300.2.2.1 : (Nat → Int32)) (p300.2.2.2.1 : Int32) (p300.2.2.2.2.1 : Int32) (p300.2.2.2.2.2.1 : (Nat → Int32)) (p300.2.2.2.2.2.2.1 : Int32) (p300.2.2.2.2.2.2.2.1 : Int32) (p300.2.2.2.2.2.2.2.2.1 : (Nat → Int32)) (p300.2.2.2.2.2.2.2.2.2.1 : Int32) (p300.2.2.2.2.2.2.2.2.2.2.1 : Int32) (p300.2.2.2.2.2.2.2.2.2.2.2.1 : (Nat → Int32)) ((F_NH_keepWhole x5 (p300.1 : Int32) (p300.2.1 : Int32) (p300.2.2.1 : (Nat → Int32)) (p300.2.2.2.2.2.2.2.2.2.2.2.2.1 : Int32) (p300.2.2.2.2.2.2.2.2.2.2.2.2.2.1 : Int32) (p300.2.2.2.2.2.2.2.2.2.2.2.2.2.2 : (Nat → Int32))) : (Int32 × Int32 × Int32 × (Nat → Int32)))
def F_NH_powerModulo_et_c117 (x2 : Int32) (x3 : Int32) (x4 : Int32) (x5 : Int32) (t0_0 : Int32) (t0_1 : Int32) (t1_0 : (Nat → Int32)) (t2_0 : Int32) (t2_1 : Int32) (t3_0 : (Nat → Int32)) (t4_0 : Int32) (t4_1 : Int32) (t5_0 : (Nat → Int32)) (t6_0 : Int32) (t6_1 : Int32) (t7_0 : (Nat → Int32)) (t8_0 : Int32) (t8_1 : Int32) (t9_0 : (Nat → Int32)) (t10_0 : Int32) (t10_1 : Int32) (t11_0 : (Nat → Int32)) (t12_0 : Int32) (t12_1 : Int32) (t13_0 : (Nat → Int32)) (t14_0 : Int32) (t14_1 : Int32) (t15_0 : (Nat → Int32)) (t16_0 : Int32) (t16_1 : Int32) (t17_0 : (Nat → Int32)) (t18_0 : Int32) (t18_1 : Int32) (t19_0 : (Nat → Int32)) (lx88 : Int32) (lx140 : Int32) (p229 : (Int32 × Int32 × (Nat → Int32) × Int32 × Int32 × (Nat → Int32) × Int32 × Int32 × (Nat → Int32))) : Int32 × Int32 × Int32 × (Nat → Int32) × Int32 × Int32 × (Nat → Int32) × Int32 × Int32 × (Nat → Int32) × Int32 × Int32 × (Nat → Int32) × Int32 × Int32 × (Nat → Int32) × Int32 × Int32 × (Nat → Int32) × Int32 × Int32 × (Nat → Int32) × Int32 × Int32 × (Nat → Int32) × Int32 × Int32 × (Nat → Int32) := F_NH_powerModulo_et_c136 x2 x3 x4 x5 t0_0 t0_1 t1_0 t2_0 t2_1 t3_0 t4_0 t4_1 t5_0 t6_0 t6_1 t7_0 t8_0 t8_1 t9_0 t10_0 t10_1 t11_0 t12_0 t12_1 t13_0 t14_0 t14_1 t15_0 t16_0 t16_1 t17_0 t18_0 t18_1 t19_0 lx88 lx140 p229 ((F_Mil_powerBelow_a (68 : Int32) (p229.2.2.2.2.2.2.1 : Int32) (p229.2.2.2.2.2.2.2.1 : Int32) (p229.2.2.2.2.2.2.2.2 : (Nat → Int32)) (p229.1 : Int32) (p229.2.1 : Int32) (p229.2.2.1 : (Nat → Int32)) t4_0 t4_1 t5_0 t6_0 t6_1 t7_0 (p229.2.2.2.1 : Int32) (p229.2.2.2.2.1 : Int32) (p229.2.2.2.2.2.1 : (Nat → Int32))) : (Int32 × Int32 × (Nat → Int32) × Int32 × Int32 × (Nat → Int32) × Int32 × Int32 × (Nat → Int32) × Int32 × Int32 × (Nat → Int32) × Int32 × Int32 × (Nat → Int32)))
def F_NH_powerModulo_et_c142_8 (x2 : Int32) (x3 : Int32) (x4 : Int32) (x5 : Int32) (t0_0 : Int32) (t0_1 : Int32) (t1_0 : (Nat → Int32)) (t2_0 : Int32) (t2_1 : Int32) (t3_0 : (Nat → Int32)) (t4_0 : Int32) (t4_1 : Int32) (t5_0 : (Nat → Int32)) (t6_0 : Int32) (t6_1 : Int32) (t7_0 : (Nat → Int32)) (t8_0 : Int32) (t8_1 : Int32) (t9_0 : (Nat → Int32)) (t10_0 : Int32) (t10_1 : Int32) (t11_0 : (Nat → Int32)) (t12_0 : Int32) (t12_1 : Int32) (t13_0 : (Nat → Int32)) (t14_0 : Int32) (t14_1 : Int32) (t15_0 : (Nat → Int32)) (t16_0 : Int32) (t16_1 : Int32) (t17_0 : (Nat → Int32)) (t18_0 : Int32) (t18_1 : Int32) (t19_0 : (Nat → Int32)) (lx88 : Int32) (lx140 : Int32) (p462 : (Int32 × Int32 × Int32 × (Nat → Int32) × Int32 × Int32 × (Nat → Int32) × Int32 × Int32 × (Nat → Int32) × Int32 × Int32 × (Nat → Int32) × Int32 × Int32 × (Nat → Int32) × Int32 × Int32 × (Nat → Int32) × Int32 × Int32 × (Nat → Int32) × Int32 × Int32 × (Nat → Int32))) (y396 : Int32) (y397 : Int32) (f398 : (Nat → Int32)) (y401 : Int32) (y402 : Int32) (f403 : (Nat → Int32)) (y406 : Int32) (y407 : Int32) (f408 : (Nat → Int32)) (y411 : Int32) (y412 : Int32) (f413 : (Nat → Int32)) (p558 : (Int32 × Int32 × (Nat → Int32) × Int32 × Int32 × (Nat → Int32) × Int32 × Int32 × (Nat → Int32) × Int32 × Int32 × (Nat → Int32) × Int32 × Int32 × (Nat → Int32))) (y513 : Int32) (y514 : Int32) (f515 : (Nat → Int32)) (y518 : Int32) (y519 : Int32) (f520 : (Nat → Int32)) (y523 : Int32) (y524 : Int32) (f525 : (Nat → Int32)) (y528 : Int32) (y529 : Int32) (f530 : (Nat → Int32)) (p593 : (Int32 × Int32 × Int32 × (Nat → Int32))) : Int32 × Int32 × Int32 × (Nat → Int32) × Int32 × Int32 × (Nat → Int32) × Int32 × Int32 × (Nat → Int32) × Int32 × Int32 × (Nat → Int32) × Int32 × Int32 × (Nat → Int32) × Int32 × Int32 × (Nat → Int32) × Int32 × Int32 × (Nat → Int32) × Int32 × Int32 × (Nat → Int32) × Int32 × Int32 × (Nat → Int32) := if p593.1 = (0 : Int32) then (((0 : Int32), y513, y514, f515, y518, y519, f520, y523, y524, f525, y528, y529, f530, y396, y397, f398, y401, y402, f403, y406, y407, f408, y411, y412, f413, (p593.2.1 : Int32), (p593.2.2.1 : Int32), (p593.2.2.2 : (Nat → Int32)))) else ((p593.1, y513, y514, f515, y518, y519, f520, y523, y524, f525, y528, y529, f530, y396, y397, f398, y401, y402, f403, y406, y407, f408, y411, y412, f413, (p593.2.1 : Int32), (p593.2.2.1 : Int32), (p593.2.2.2 : (Nat → Int32))))
def F_NH_powerModulo_et_c136_7 (x2 : Int32) (x3 : Int32) (x4 : Int32) (x5 : Int32) (t0_0 : Int32) (t0_1 : Int32) (t1_0 : (Nat → Int32)) (t2_0 : Int32) (t2_1 : Int32) (t3_0 : (Nat → Int32)) (t4_0 : Int32) (t4_1 : Int32) (t5_0 : (Nat → Int32)) (t6_0 : Int32) (t6_1 : Int32) (t7_0 : (Nat → Int32)) (t8_0 : Int32) (t8_1 : Int32) (t9_0 : (Nat → Int32)) (t10_0 : Int32) (t10_1 : Int32) (t11_0 : (Nat → Int32)) (t12_0 : Int32) (t12_1 : Int32) (t13_0 : (Nat → Int32)) (t14_0 : Int32) (t14_1 : Int32) (t15_0 : (Nat → Int32)) (t16_0 : Int32) (t16_1 : Int32) (t17_0 : (Nat → Int32)) (t18_0 : Int32) (t18_1 : Int32) (t19_0 : (Nat → Int32)) (lx88 : Int32) (lx140 : Int32) (p462 : (Int32 × Int32 × Int32 × (Nat → Int32) × Int32 × Int32 × (Nat → Int32) × Int32 × Int32 × (Nat → Int32) × Int32 × Int32 × (Nat → Int32) × Int32 × Int32 × (Nat → Int32) × Int32 × Int32 × (Nat → Int32) × Int32 × Int32 × (Nat → Int32) × Int32 × Int32 × (Nat → Int32))) (y396 : Int32) (y397 : Int32) (f398 : (Nat → Int32)) (y401 : Int32) (y402 : Int32) (f403 : (Nat → Int32)) (y406 : Int32) (y407 : Int32) (f408 : (Nat → Int32)) (y411 : Int32) (y412 : Int32) (f413 : (Nat → Int32)) (p558 : (Int32 × Int32 × (Nat → Int32) × Int32 × Int32 × (Nat → Int32) × Int32 × Int32 × (Nat → Int32) × Int32 × Int32 × (Nat → Int32) × Int32 × Int32 × (Nat → Int32))) : Int32 × Int32 × Int32 × (Nat → Int32) × Int32 × Int32 × (Nat → Int32) × Int32 × Int32 × (Nat → Int32) × Int32 × Int32 × (Nat → Int32) × Int32 × Int32 × (Nat → Int32) × Int32 × Int32 × (Nat → Int32) × Int32 × Int32 × (Nat → Int32) × Int32 × Int32 × (Nat → Int32) × Int32 × Int32 × (Nat → Int32) := F_NH_powerModulo_et_c142_8 x2 x3 x4 x5 t0_0 t0_1 t1_0 t2_0 t2_1 t3_0 t4_0 t4_1 t5_0 t6_0 t6_1 t7_0 t8_0 t8_1 t9_0 t10_0 t10_1 t11_0 t12_0 t12_1 t13_0 t14_0 t14_1 t15_0 t16_0 t16_1 t17_0 t18_0 t18_1 t19_0 lx88 lx140 p462 y396 y397 f398 y401 y402 f403 y406 y407 f408 y411 y412 f413 p558 (p558.1 : Int32) (p558.2.1 : Int32) (p558.2.2.1 : (Nat → Int32)) (p558.2.2.2.1 : Int32) (p558.2.2.2.2.1 : Int32) (p558.2.2.2.2.2.1 : (Nat → Int32)) (p558.2.2.2.2.2.2.1 : Int32) (p558.2.2.2.2.2.2.2.1 : Int32) (p558.2.2.2.2.2.2.2.2.1 : (Nat → Int32)) (p558.2.2.2.2.2.2.2.2.2.1 : Int32) (p558.2.2.2.2.2.2.2.2.2.2.1 : Int32) (p558.2.2.2.2.2.2.2.2.2.2.2.1 : (Nat → Int32)) ((F_NH_keepWhole x5 (p558.1 : Int32) (p558.2.1 : Int32) (p558.2.2.1 : (Nat → Int32)) (p558.2.2.2.2.2.2.2.2.2.2.2.2.1 : Int32) (p558.2.2.2.2.2.2.2.2.2.2.2.2.2.1 : Int32) (p558.2.2.2.2.2.2.2.2.2.2.2.2.2.2 : (Nat → Int32))) : (Int32 × Int32 × Int32 × (Nat → Int32)))
def F_NH_powerModulo_et_c85 (x2 : Int32) (x3 : Int32) (x4 : Int32) (x5 : Int32) (t0_0 : Int32) (t0_1 : Int32) (t1_0 : (Nat → Int32)) (t2_0 : Int32) (t2_1 : Int32) (t3_0 : (Nat → Int32)) (t4_0 : Int32) (t4_1 : Int32) (t5_0 : (Nat → Int32)) (t6_0 : Int32) (t6_1 : Int32) (t7_0 : (Nat → Int32)) (t8_0 : Int32) (t8_1 : Int32) (t9_0 : (Nat → Int32)) (t10_0 : Int32) (t10_1 : Int32) (t11_0 : (Nat → Int32)) (t12_0 : Int32) (t12_1 : Int32) (t13_0 : (Nat → Int32)) (t14_0 : Int32) (t14_1 : Int32) (t15_0 : (Nat → Int32)) (t16_0 : Int32) (t16_1 : Int32) (t17_0 : (Nat → Int32)) (t18_0 : Int32) (t18_1 : Int32) (t19_0 : (Nat → Int32)) (lx88 : Int32) (lx140 : Int32) (p462 : (Int32 × Int32 × Int32 × (Nat → Int32) × Int32 × Int32 × (Nat → Int32) × Int32 × Int32 × (Nat → Int32) × Int32 × Int32 × (Nat → Int32) × Int32 × Int32 × (Nat → Int32) × Int32 × Int32 × (Nat → Int32) × Int32 × Int32 × (Nat → Int32) × Int32 × Int32 × (Nat → Int32))) : Int32 × Int32 × Int32 × (Nat → Int32) × Int32 × Int32 × (Nat → Int32) × Int32 × Int32 × (Nat → Int32) × Int32 × Int32 × (Nat → Int32) × Int32 × Int32 × (Nat → Int32) × Int32 × Int32 × (Nat → Int32) × Int32 × Int32 × (Nat → Int32) × Int32 × Int32 × (Nat → Int32) × Int32 × Int32 × (Nat → Int32) := if (F_NH_canHave (p462.1 : Int32)) = (0 : Int32) then (F_NH_powerModulo_et_c136_7 x2 x3 x4 x5 t0_0 t0_1 t1_0 t2_0 t2_1 t3_0 t4_0 t4_1 t5_0 t6_0 t6_1 t7_0 t8_0 t8_1 t9_0 t10_0 t10_1 t11_0 t12_0 t12_1 t13_0 t14_0 t14_1 t15_0 t16_0 t16_1 t17_0 t18_0 t18_1 t19_0 lx88 lx140 p462 (p462.2.2.2.2.2.2.2.2.2.2.1 : Int32) (p462.2.2.2.2.2.2.2.2.2.2.2.1 : Int32) (p462.2.2.2.2.2.2.2.2.2.2.2.2.1 : (Nat → Int32)) (p462.2.2.2.2.2.2.2.2.2.2.2.2.2.1 : Int32) (p462.2.2.2.2.2.2.2.2.2.2.2.2.2.2.1 : Int32) (p462.2.2.2.2.2.2.2.2.2.2.2.2.2.2.2.1 : (Nat → Int32)) (p462.2.2.2.2.2.2.2.2.2.2.2.2.2.2.2.2.1 : Int32) (p462.2.2.2.2.2.2.2.2.2.2.2.2.2.2.2.2.2.1 : Int32) (p462.2.2.2.2.2.2.2.2.2.2.2.2.2.2.2.2.2.2.1 : (Nat → Int32)) (p462.2.2.2.2.2.2.2.2.2.2.2.2.2.2.2.2.2.2.2.1 : Int32) (p462.2.2.2.2.2.2.2.2.2.2.2.2.2.2.2.2.2.2.2.2.1 : Int32) (p462.2.2.2.2.2.2.2.2.2.2.2.2.2.2.2.2.2.2.2.2.2.1 : (Nat → Int32)) ((F_Mil_powerBelow_a (68 : Int32) (p462.2.1 : Int32) (p462.2.2.1 : Int32) (p462.2.2.2.1 : (Nat → Int32)) (p462.2.2.2.2.1 : Int32) (p462.2.2.2.2.2.1 : Int32) (p462.2.2.2.2.2.2.1 : (Nat → Int32)) t4_0 t4_1 t5_0 (p462.2.2.2.2.2.2.2.1 : Int32) (p462.2.2.2.2.2.2.2.2.1 : Int32) (p462.2.2.2.2.2.2.2.2.2.1 : (Nat → Int32)) (p462.2.2.2.2.2.2.2.2.2.2.2.2.2.2.2.2.2.2.2.2.2.2.1 : Int32) (p462.2.2.2.2.2.2.2.2.2.2.2.2.2.2.2.2.2.2.2.2.2.2.2.1 : Int32) (p462.2.2.2.2.2.2.2.2.2.2.2.2.2.2.2.2.2.2.2.2.2.2.2.2 : (Nat → Int32))) : (Int32 × Int32 × (Nat → Int32) × Int32 × Int32 × (Nat → Int32) × Int32 × Int32 × (Nat → Int32) × Int32 × Int32 × (Nat → Int32) × Int32 × Int32 × (Nat → Int32)))) else (((F_NH_canHave (p462.1 : Int32)), (p462.2.1 : Int32), (p462.2.2.1 : Int32), (p462.2.2.2.1 : (Nat → Int32)), (p462.2.2.2.2.1 : Int32), (p462.2.2.2.2.2.1 : Int32), (p462.2.2.2.2.2.2.1 : (Nat → Int32)), t4_0, t4_1, t5_0, (p462.2.2.2.2.2.2.2.1 : Int32), (p462.2.2.2.2.2.2.2.2.1 : Int32), (p462.2.2.2.2.2.2.2.2.2.1 : (Nat → Int32)), (p462.2.2.2.2.2.2.2.2.2.2.1 : Int32), (p462.2.2.2.2.2.2.2.2.2.2.2.1 : Int32), (p462.2.2.2.2.2.2.2.2.2.2.2.2.1 : (Nat → Int32)), (p462.2.2.2.2.2.2.2.2.2.2.2.2.2.1 : Int32), (p462.2.2.2.2.2.2.2.2.2.2.2.2.2.2.1 : Int32), (p462.2.2.2.2.2.2.2.2.2.2.2.2.2.2.2.1 : (Nat → Int32)), (p462.2.2.2.2.2.2.2.2.2.2.2.2.2.2.2.2.1 : Int32), (p462.2.2.2.2.2.2.2.2.2.2.2.2.2.2.2.2.2.1 : Int32), (p462.2.2.2.2.2.2.2.2.2.2.2.2.2.2.2.2.2.2.1 : (Nat → Int32)), (p462.2.2.2.2.2.2.2.2.2.2.2.2.2.2.2.2.2.2.2.1 : Int32), (p462.2.2.2.2.2.2.2.2.2.2.2.2.2.2.2.2.2.2.2.2.1 : Int32), (p462.2.2.2.2.2.2.2.2.2.2.2.2.2.2.2.2.2.2.2.2.2.1 : (Nat → Int32)), (p462.2.2.2.2.2.2.2.2.2.2.2.2.2.2.2.2.2.2.2.2.2.2.1 : Int32), (p462.2.2.2.2.2.2.2.2.2.2.2.2.2.2.2.2.2.2.2.2.2.2.2.1 : Int32), (p462.2.2.2.2.2.2.2.2.2.2.2.2.2.2.2.2.2.2.2.2.2.2.2.2 : (Nat → Int32))))
def F_NH_powerModulo_et_J54 (x2 : Int32) (x3 : Int32) (x4 : Int32) (x5 : Int32) (t0_0 : Int32) (t0_1 : Int32) (t1_0 : (Nat → Int32)) (t2_0 : Int32) (t2_1 : Int32) (t3_0 : (Nat → Int32)) (t4_0 : Int32) (t4_1 : Int32) (t5_0 : (Nat → Int32)) (t6_0 : Int32) (t6_1 : Int32) (t7_0 : (Nat → Int32)) (t8_0 : Int32) (t8_1 : Int32) (t9_0 : (Nat → Int32)) (t10_0 : Int32) (t10_1 : Int32) (t11_0 : (Nat → Int32)) (t12_0 : Int32) (t12_1 : Int32) (t13_0 : (Nat → Int32)) (t14_0 : Int32) (t14_1 : Int32) (t15_0 : (Nat → Int32)) (t16_0 : Int32) (t16_1 : Int32) (t17_0 : (Nat → Int32)) (t18_0 : Int32) (t18_1 : Int32) (t19_0 : (Nat → Int32)) (lx88 : Int32) (lx140 : Int32) : Int32 × Int32 × Int32 × (Nat → Int32) × Int32 × Int32 × (Nat → Int32) × Int32 × Int32 × (Nat → Int32) × Int32 × Int32 × (Nat → Int32) × Int32 × Int32 × (Nat → Int32) × Int32 × Int32 × (Nat → Int32) × Int32 × Int32 × (Nat → Int32) × Int32 × Int32 × (Nat → Int32) × Int32 × Int32 × (Nat → Int32) := if (F_NH_canHave lx140) = (0 : Int32) then (if t18_1 = (0 : Int32) then (F_NH_powerModulo_et_c117 x2 x3 x4 x5 t0_0 t0_1 t1_0 t2_0 t2_1 t3_0 t4_0 t4_1 t5_0 t6_0 t6_1 t7_0 t8_0 t8_1 t9_0 t10_0 t10_1 t11_0 t12_0 t12_1 t13_0 t14_0 t14_1 t15_0 t16_0 t16_1 t17_0 t18_0 t18_1 t19_0 lx88 lx140 ((F_Mil_modulo (68 : Int32) (68 : Int32) (220 : Int32) t2_0 t2_1 t3_0 t16_0 t16_1 t17_0 t18_0 t18_1 t19_0 t0_0 t0_1 t1_0) : (Int32 × Int32 × (Nat → Int32) × Int32 × Int32 × (Nat → Int32) × Int32 × Int32 × (Nat → Int32)))) else (F_NH_powerModulo_et_c85 x2 x3 x4 x5 t0_0 t0_1 t1_0 t2_0 t2_1 t3_0 t4_0 t4_1 t5_0 t6_0 t6_1 t7_0 t8_0 t8_1 t9_0 t10_0 t10_1 t11_0 t12_0 t12_1 t13_0 t14_0 t14_1 t15_0 t16_0 t16_1 t17_0 t18_0 t18_1 t19_0 lx88 lx140 ((F_Mil_inverse (68 : Int32) (68 : Int32) t0_0 t0_1 t1_0 t2_0 t2_1 t3_0 t6_0 t6_1 t7_0 t8_0 t8_1 t9_0 t10_0 t10_1 t11_0 t12_0 t12_1 t13_0 t14_0 t14_1 t15_0 t16_0 t16_1 t17_0 t18_0 t18_1 t19_0) : (Int32 × Int32 × Int32 × (Nat → Int32) × Int32 × Int32 × (Nat → Int32) × Int32 × Int32 × (Nat → Int32) × Int32 × Int32 × (Nat → Int32) × Int32 × Int32 × (Nat → Int32) × Int32 × Int32 × (Nat → Int32) × Int32 × Int32 × (Nat → Int32) × Int32 × Int32 × (Nat → Int32))))) else (((F_NH_canHave lx140), t0_0, t0_1, t1_0, t2_0, t2_1, t3_0, t4_0, t4_1, t5_0, t6_0, t6_1, t7_0, t8_0, t8_1, t9_0, t10_0, t10_1, t11_0, t12_0, t12_1, t13_0, t14_0, t14_1, t15_0, t18_0, t18_1, t19_0))
def F_NH_powerModulo_et_J34 (x2 : Int32) (x3 : Int32) (x4 : Int32) (x5 : Int32) (t0_0 : Int32) (t0_1 : Int32) (t1_0 : (Nat → Int32)) (t2_0 : Int32) (t2_1 : Int32) (t3_0 : (Nat → Int32)) (t4_0 : Int32) (t4_1 : Int32) (t5_0 : (Nat → Int32)) (t6_0 : Int32) (t6_1 : Int32) (t7_0 : (Nat → Int32)) (t8_0 : Int32) (t8_1 : Int32) (t9_0 : (Nat → Int32)) (t10_0 : Int32) (t10_1 : Int32) (t11_0 : (Nat → Int32)) (t12_0 : Int32) (t12_1 : Int32) (t13_0 : (Nat → Int32)) (t14_0 : Int32) (t14_1 : Int32) (t15_0 : (Nat → Int32)) (t16_0 : Int32) (t16_1 : Int32) (t17_0 : (Nat → Int32)) (t18_0 : Int32) (t18_1 : Int32) (t19_0 : (Nat → Int32)) (lx88 : Int32) : Int32 × Int32 × Int32 × (Nat → Int32) × Int32 × Int32 × (Nat → Int32) × Int32 × Int32 × (Nat → Int32) × Int32 × Int32 × (Nat → Int32) × Int32 × Int32 × (Nat → Int32) × Int32 × Int32 × (Nat → Int32) × Int32 × Int32 × (Nat → Int32) × Int32 × Int32 × (Nat → Int32) × Int32 × Int32 × (Nat → Int32) := if (F_NH_need lx88) = (0 : Int32) then (if ((F_Big_sign (68 : Int32) t18_0 t18_1) : Int32) ≤ (0 : Int32) then (F_NH_powerModulo_et_J54 x2 x3 x4 x5 t0_0 t0_1 t1_0 t2_0 t2_1 t3_0 t4_0 t4_1 t5_0 t6_0 t6_1 t7_0 t8_0 t8_1 t9_0 t10_0 t10_1 t11_0 t12_0 t12_1 t13_0 t14_0 t14_1 t15_0 t16_0 t16_1 t17_0 t18_0 t18_1 t19_0 lx88 0) else (F_NH_powerModulo_et_J54 x2 x3 x4 x5 t0_0 t0_1 t1_0 t2_0 t2_1 t3_0 t4_0 t4_1 t5_0 t6_0 t6_1 t7_0 t8_0 t8_1 t9_0 t10_0 t10_1 t11_0 t12_0 t12_1 t13_0 t14_0 t14_1 t15_0 t16_0 t16_1 t17_0 t18_0 t18_1 t19_0 lx88 1)) else (((F_NH_need lx88), t0_0, t0_1, t1_0, t2_0, t2_1, t3_0, t4_0, t4_1, t5_0, t6_0, t6_1, t7_0, t8_0, t8_1, t9_0, t10_0, t10_1, t11_0, t12_0, t12_1, t13_0, t14_0, t14_1, t15_0, t18_0, t18_1, t19_0))
def F_NH_powerModulo_et_J33 (x2 : Int32) (x3 : Int32) (x4 : Int32) (x5 : Int32) (t0_0 : Int32) (t0_1 : Int32) (t1_0 : (Nat → Int32)) (t2_0 : Int32) (t2_1 : Int32) (t3_0 : (Nat → Int32)) (t4_0 : Int32) (t4_1 : Int32) (t5_0 : (Nat → Int32)) (t6_0 : Int32) (t6_1 : Int32) (t7_0 : (Nat → Int32)) (t8_0 : Int32) (t8_1 : Int32) (t9_0 : (Nat → Int32)) (t10_0 : Int32) (t10_1 : Int32) (t11_0 : (Nat → Int32)) (t12_0 : Int32) (t12_1 : Int32) (t13_0 : (Nat → Int32)) (t14_0 : Int32) (t14_1 : Int32) (t15_0 : (Nat → Int32)) (t16_0 : Int32) (t16_1 : Int32) (t17_0 : (Nat → Int32)) (t18_0 : Int32) (t18_1 : Int32) (t19_0 : (Nat → Int32)) : Int32 × Int32 × Int32 × (Nat → Int32) × Int32 × Int32 × (Nat → Int32) × Int32 × Int32 × (Nat → Int32) × Int32 × Int32 × (Nat → Int32) × Int32 × Int32 × (Nat → Int32) × Int32 × Int32 × (Nat → Int32) × Int32 × Int32 × (Nat → Int32) × Int32 × Int32 × (Nat → Int32) × Int32 × Int32 × (Nat → Int32) := F_NH_powerModulo_et_J34 x2 x3 x4 x5 t0_0 t0_1 t1_0 t2_0 t2_1 t3_0 t4_0 t4_1 t5_0 t6_0 t6_1 t7_0 t8_0 t8_1 t9_0 t10_0 t10_1 t11_0 t12_0 t12_1 t13_0 t14_0 t14_1 t15_0 t16_0 t16_1 t17_0 t18_0 t18_1 t19_0 0
def F_NH_powerModulo_et (x2 : Int32) (x3 : Int32) (x4 : Int32) (x5 : Int32) (t0_0 : Int32) (t0_1 : Int32) (t1_0 : (Nat → Int32)) (t2_0 : Int32) (t2_1 : Int32) (t3_0 : (Nat → Int32)) (t4_0 : Int32) (t4_1 : Int32) (t5_0 : (Nat → Int32)) (t6_0 : Int32) (t6_1 : Int32) (t7_0 : (Nat → Int32)) (t8_0 : Int32) (t8_1 : Int32) (t9_0 : (Nat → Int32)) (t10_0 : Int32) (t10_1 : Int32) (t11_0 : (Nat → Int32)) (t12_0 : Int32) (t12_1 : Int32) (t13_0 : (Nat → Int32)) (t14_0 : Int32) (t14_1 : Int32) (t15_0 : (Nat → Int32)) (t16_0 : Int32) (t16_1 : Int32) (t17_0 : (Nat → Int32)) (t18_0 : Int32) (t18_1 : Int32) (t19_0 : (Nat → Int32)) : Int32 × Int32 × Int32 × (Nat → Int32) × Int32 × Int32 × (Nat → Int32) × Int32 × Int32 × (Nat → Int32) × Int32 × Int32 × (Nat → Int32) × Int32 × Int32 × (Nat → Int32) × Int32 × Int32 × (Nat → Int32) × Int32 × Int32 × (Nat → Int32) × Int32 × Int32 × (Nat → Int32) × Int32 × Int32 × (Nat → Int32) := if ((F_NH_isRegister x2) : Int32) = (0 : Int32) then (F_NH_powerModulo_et_J33 x2 x3 x4 x5 t0_0 t0_1 t1_0 t2_0 t2_1 t3_0 t4_0 t4_1 t5_0 t6_0 t6_1 t7_0 t8_0 t8_1 t9_0 t10_0 t10_1 t11_0 t12_0 t12_1 t13_0 t14_0 t14_1 t15_0 t16_0 t16_1 t17_0 t18_0 t18_1 t19_0) else (if ((F_NH_isRegister x3) : Int32) = (0 : Int32) then (F_NH_powerModulo_et_J33 x2 x3 x4 x5 t0_0 t0_1 t1_0 t2_0 t2_1 t3_0 t4_0 t4_1 t5_0 t6_0 t6_1 t7_0 t8_0 t8_1 t9_0 t10_0 t10_1 t11_0 t12_0 t12_1 t13_0 t14_0 t14_1 t15_0 t16_0 t16_1 t17_0 t18_0 t18_1 t19_0) else (if ((F_NH_isRegister x4) : Int32) = (0 : Int32) then (F_NH_powerModulo_et_J33 x2 x3 x4 x5 t0_0 t0_1 t1_0 t2_0 t2_1 t3_0 t4_0 t4_1 t5_0 t6_0 t6_1 t7_0 t8_0 t8_1 t9_0 t10_0 t10_1 t11_0 t12_0 t12_1 t13_0 t14_0 t14_1 t15_0 t16_0 t16_1 t17_0 t18_0 t18_1 t19_0) else (if ((F_NH_isRegister x5) : Int32) = (0 : Int32) then (F_NH_powerModulo_et_J33 x2 x3 x4 x5 t0_0 t0_1 t1_0 t2_0 t2_1 t3_0 t4_0 t4_1 t5_0 t6_0 t6_1 t7_0 t8_0 t8_1 t9_0 t10_0 t10_1 t11_0 t12_0 t12_1 t13_0 t14_0 t14_1 t15_0 t16_0 t16_1 t17_0 t18_0 t18_1 t19_0) else (F_NH_powerModulo_et_J34 x2 x3 x4 x5 t0_0 t0_1 t1_0 t2_0 t2_1 t3_0 t4_0 t4_1 t5_0 t6_0 t6_1 t7_0 t8_0 t8_1 t9_0 t10_0 t10_1 t11_0 t12_0 t12_1 t13_0 t14_0 t14_1 t15_0 t16_0 t16_1 t17_0 t18_0 t18_1 t19_0 1))))
def S_NH_powerModulo_et_c142 (x2 : Int32) (x3 : Int32) (x4 : Int32) (x5 : Int32) (t0_0 : Int32) (t0_1 : Int32) (t1_0 : (Nat → Int32)) (t2_0 : Int32) (t2_1 : Int32) (t3_0 : (Nat → Int32)) (t4_0 : Int32) (t4_1 : Int32) (t5_0 : (Nat → Int32)) (t6_0 : Int32) (t6_1 : Int32) (t7_0 : (Nat → Int32)) (t8_0 : Int32) (t8_1 : Int32) (t9_0 : (Nat → Int32)) (t10_0 : Int32) (t10_1 : Int32) (t11_0 : (Nat → Int32)) (t12_0 : Int32) (t12_1 : Int32) (t13_0 : (Nat → Int32)) (t14_0 : Int32) (t14_1 : Int32) (t15_0 : (Nat → Int32)) (t16_0 : Int32) (t16_1 : Int32) (t17_0 : (Nat → Int32)) (t18_0 : Int32) (t18_1 : Int32) (t19_0 : (Nat → Int32)) (lx88 : Int32) (lx140 : Int32) (p229 : (Int32 × Int32 × (Nat → Int32) × Int32 × Int32 × (Nat → Int32) × Int32 × Int32 × (Nat → Int32))) (p300 : (Int32 × Int32 × (Nat → Int32) × Int32 × Int32 × (Nat → Int32) × Int32 × Int32 × (Nat → Int32) × Int32 × Int32 × (Nat → Int32) × Int32 × Int32 × (Nat → Int32))) (y255 : Int32) (y256 : Int32) (f257 : (Nat → Int32)) (y260 : Int32) (y261 : Int32) (f262 : (Nat → Int32)) (y265 : Int32) (y266 : Int32) (f267 : (Nat → Int32)) (y270 : Int32) (y271 : Int32) (f272 : (Nat → Int32)) (p335 : (Int32 × Int32 × Int32 × (Nat → Int32))) : Prop := if p335.1 = (0 : Int32) then (True) else (True)
def S_NH_powerModulo_et_c136 (x2 : Int32) (x3 : Int32) (x4 : Int32) (x5 : Int32) (t0_0 : Int32) (t0_1 : Int32) (t1_0 : (Nat → Int32)) (t2_0 : Int32) (t2_1 : Int32) (t3_0 : (Nat → Int32)) (t4_0 : Int32) (t4_1 : Int32) (t5_0 : (Nat → Int32)) (t6_0 : Int32) (t6_1 : Int32) (t7_0 : (Nat → Int32)) (t8_0 : Int32) (t8_1 : Int32) (t9_0 : (Nat → Int32)) (t10_0 : Int32) (t10_1 : Int32) (t11_0 : (Nat → Int32)) (t12_0 : Int32) (t12_1 : Int32) (t13_0 : (Nat → Int32)) (t14_0 : Int32) (t14_1 : Int32) (t15_0 : (Nat → Int32)) (t16_0 : Int32) (t16_1 : Int32) (t17_0 : (Nat → Int32)) (t18_0 : Int32) (t18_1 : Int32) (t19_0 : (Nat → Int32)) (lx88 : Int32) (lx140 : Int32) (p229 : (Int32 × Int32 × (Nat → Int32) × Int32 × Int32 × (Nat → Int32) × Int32 × Int32 × (Nat → Int32))) (p300 : (Int32 × Int32 × (Nat → Int32) × Int32 × Int32 × (Nat → Int32) × Int32 × Int32 × (Nat → Int32) × Int32 × Int32 × (Nat → Int32) × Int32 × Int32 × (Nat → Int32))) : Prop := (True ∧ S_NH_keepWhole x5 (p300.1 : Int32) (p300.2.1 : Int32) (p300.2.2.1 : (Nat → Int32)) (p300.2.2.2.2.2.2.2.2.2.2.2.2.1 : Int32) (p300.2.2.2.2.2.2.2.2.2.2.2.2.2.1 : Int32) (p300.2.2.2.2.2.2.2.2.2.2.2.2.2.2 : (Nat → Int32))) ∧ (S_NH_powerModulo_et_c142 x2 x3 x4 x5 t0_0 t0_1 t1_0 t2_0 t2_1 t3_0 t4_0 t4_1 t5_0 t6_0 t6_1 t7_0 t8_0 t8_1 t9_0 t10_0 t10_1 t11_0 t12_0 t12_1 t13_0 t14_0 t14_1 t15_0 t16_0 t16_1 t17_0 t18_0 t18_1 t19_0 lx88 lx140 p229 p300 (p300.1 : Int32) (p300.2.1 : Int32) (p300.2.2.1 : (Nat → Int32)) (p300.2.2.2.1 : Int32) (p300.2.2.2.2.1 : Int32) (p300.2.2.2.2.2.1 : (Nat → Int32)) (p300.2.2.2.2.2.2.1 : Int32) (p300.2.2.2.2.2.2.2.1 : Int32) (p300.2.2.2.2.2.2.2.2.1 : (Nat → Int32)) (p300.2.2.2.2.2.2.2.2.2.1 : Int32) (p300.2.2.2.2.2.2.2.2.2.2.1 : Int32) (p300.2.2.2.2.2.2.2.2.2.2.2.1 : (Nat → Int32)) ((F_NH_keepWhole x5 (p300.1 : Int32) (p300.2.1 : Int32) (p300.2.2.1 : (Nat → Int32)) (p300.2.2.2.2.2.2.2.2.2.2.2.2.1 : Int32) (p300.2.2.2.2.2.2.2.2.2.2.2.2.2.1 : Int32) (p300.2.2.2.2.2.2.2.2.2.2.2.2.2.2 : (Nat → Int32))) : (Int32 × Int32 × Int32 × (Nat → Int32))))
def S_NH_powerModulo_et_c117 (x2 : Int32) (x3 : Int32) (x4 : Int32) (x5 : Int32) (t0_0 : Int32) (t0_1 : Int32) (t1_0 : (Nat → Int32)) (t2_0 : Int32) (t2_1 : Int32) (t3_0 : (Nat → Int32)) (t4_0 : Int32) (t4_1 : Int32) (t5_0 : (Nat → Int32)) (t6_0 : Int32) (t6_1 : Int32) (t7_0 : (Nat → Int32)) (t8_0 : Int32) (t8_1 : Int32) (t9_0 : (Nat → Int32)) (t10_0 : Int32) (t10_1 : Int32) (t11_0 : (Nat → Int32)) (t12_0 : Int32) (t12_1 : Int32) (t13_0 : (Nat → Int32)) (t14_0 : Int32) (t14_1 : Int32) (t15_0 : (Nat → Int32)) (t16_0 : Int32) (t16_1 : Int32) (t17_0 : (Nat → Int32)) (t18_0 : Int32) (t18_1 : Int32) (t19_0 : (Nat → Int32)) (lx88 : Int32) (lx140 : Int32) (p229 : (Int32 × Int32 × (Nat → Int32) × Int32 × Int32 × (Nat → Int32) × Int32 × Int32 × (Nat → Int32))) : Prop := (True ∧ S_Mil_powerBelow_a (68 : Int32) (p229.2.2.2.2.2.2.1 : Int32) (p229.2.2.2.2.2.2.2.1 : Int32) (p229.2.2.2.2.2.2.2.2 : (Nat → Int32)) (p229.1 : Int32) (p229.2.1 : Int32) (p229.2.2.1 : (Nat → Int32)) t4_0 t4_1 t5_0 t6_0 t6_1 t7_0 (p229.2.2.2.1 : Int32) (p229.2.2.2.2.1 : Int32) (p229.2.2.2.2.2.1 : (Nat → Int32))) ∧ (S_NH_powerModulo_et_c136 x2 x3 x4 x5 t0_0 t0_1 t1_0 t2_0 t2_1 t3_0 t4_0 t4_1 t5_0 t6_0 t6_1 t7_0 t8_0 t8_1 t9_0 t10_0 t10_1 t11_0 t12_0 t12_1 t13_0 t14_0 t14_1 t15_0 t16_0 t16_1 t17_0 t18_0 t18_1 t19_0 lx88 lx140 p229 ((F_Mil_powerBelow_a (68 : Int32) (p229.2.2.2.2.2.2.1 : Int32) (p229.2.2.2.2.2.2.2.1 : Int32) (p229.2.2.2.2.2.2.2.2 : (Nat → Int32)) (p229.1 : Int32) (p229.2.1 : Int32) (p229.2.2.1 : (Nat → Int32)) t4_0 t4_1 t5_0 t6_0 t6_1 t7_0 (p229.2.2.2.1 : Int32) (p229.2.2.2.2.1 : Int32) (p229.2.2.2.2.2.1 : (Nat → Int32))) : (Int32 × Int32 × (Nat → Int32) × Int32 × Int32 × (Nat → Int32) × Int32 × Int32 × (Nat → Int32) × Int32 × Int32 × (Nat → Int32) × Int32 × Int32 × (Nat → Int32))))
def S_NH_powerModulo_et_c142_8 (x2 : Int32) (x3 : Int32) (x4 : Int32) (x5 : Int32) (t0_0 : Int32) (t0_1 : Int32) (t1_0 : (Nat → Int32)) (t2_0 : Int32) (t2_1 : Int32) (t3_0 : (Nat → Int32)) (t4_0 : Int32) (t4_1 : Int32) (t5_0 : (Nat → Int32)) (t6_0 : Int32) (t6_1 : Int32) (t7_0 : (Nat → Int32)) (t8_0 : Int32) (t8_1 : Int32) (t9_0 : (Nat → Int32)) (t10_0 : Int32) (t10_1 : Int32) (t11_0 : (Nat → Int32)) (t12_0 : Int32) (t12_1 : Int32) (t13_0 : (Nat → Int32)) (t14_0 : Int32) (t14_1 : Int32) (t15_0 : (Nat → Int32)) (t16_0 : Int32) (t16_1 : Int32) (t17_0 : (Nat → Int32)) (t18_0 : Int32) (t18_1 : Int32) (t19_0 : (Nat → Int32)) (lx88 : Int32) (lx140 : Int32) (p462 : (Int32 × Int32 × Int32 × (Nat → Int32) × Int32 × Int32 × (Nat → Int32) × Int32 × Int32 × (Nat → Int32) × Int32 × Int32 × (Nat → Int32) × Int32 × Int32 × (Nat → Int32) × Int32 × Int32 × (Nat → Int32) × Int32 × Int32 × (Nat → Int32) × Int32 × Int32 × (Nat → Int32))) (y396 : Int32) (y397 : Int32) (f398 : (Nat → Int32)) (y401 : Int32) (y402 : Int32) (f403 : (Nat → Int32)) (y406 : Int32) (y407 : Int32) (f408 : (Nat → Int32)) (y411 : Int32) (y412 : Int32) (f413 : (Nat → Int32)) (p558 : (Int32 × Int32 × (Nat → Int32) × Int32 × Int32 × (Nat → Int32) × Int32 × Int32 × (Nat → Int32) × Int32 × Int32 × (Nat → Int32) × Int32 × Int32 × (Nat → Int32))) (y513 : Int32) (y514 : Int32) (f515 : (Nat → Int32)) (y518 : Int32) (y519 : Int32) (f520 : (Nat → Int32)) (y523 : Int32) (y524 : Int32) (f525 : (Nat → Int32)) (y528 : Int32) (y529 : Int32) (f530 : (Nat → Int32)) (p593 : (Int32 × Int32 × Int32 × (Nat → Int32))) : Prop := if p593.1 = (0 : Int32) then (True) else (True)
def S_NH_powerModulo_et_c136_7 (x2 : Int32) (x3 : Int32) (x4 : Int32) (x5 : Int32) (t0_0 : Int32) (t0_1 : Int32) (t1_0 : (Nat → Int32)) (t2_0 : Int32) (t2_1 : Int32) (t3_0 : (Nat → Int32)) (t4_0 : Int32) (t4_1 : Int32) (t5_0 : (Nat → Int32)) (t6_0 : Int32) (t6_1 : Int32) (t7_0 : (Nat → Int32)) (t8_0 : Int32) (t8_1 : Int32) (t9_0 : (Nat → Int32)) (t10_0 : Int32) (t10_1 : Int32) (t11_0 : (Nat → Int32)) (t12_0 : Int32) (t12_1 : Int32) (t13_0 : (Nat → Int32)) (t14_0 : Int32) (t14_1 : Int32) (t15_0 : (Nat → Int32)) (t16_0 : Int32) (t16_1 : Int32) (t17_0 : (Nat → Int32)) (t18_0 : Int32) (t18_1 : Int32) (t19_0 : (Nat → Int32)) (lx88 : Int32) (lx140 : Int32) (p462 : (Int32 × Int32 × Int32 × (Nat → Int32) × Int32 × Int32 × (Nat → Int32) × Int32 × Int32 × (Nat → Int32) × Int32 × Int32 × (Nat → Int32) × Int32 × Int32 × (Nat → Int32) × Int32 × Int32 × (Nat → Int32) × Int32 × Int32 × (Nat → Int32) × Int32 × Int32 × (Nat → Int32))) (y396 : Int32) (y397 : Int32) (f398 : (Nat → Int32)) (y401 : Int32) (y402 : Int32) (f403 : (Nat → Int32)) (y406 : Int32) (y407 : Int32) (f408 : (Nat → Int32)) (y411 : Int32) (y412 : Int32) (f413 : (Nat → Int32)) (p558 : (Int32 × Int32 × (Nat → Int32) × Int32 × Int32 × (Nat → Int32) × Int32 × Int32 × (Nat → Int32) × Int32 × Int32 × (Nat → Int32) × Int32 × Int32 × (Nat → Int32))) : Prop := (True ∧ S_NH_keepWhole x5 (p558.1 : Int32) (p558.2.1 : Int32) (p558.2.2.1 : (Nat → Int32)) (p558.2.2.2.2.2.2.2.2.2.2.2.2.1 : Int32) (p558.2.2.2.2.2.2.2.2.2.2.2.2.2.1 : Int32) (p558.2.2.2.2.2.2.2.2.2.2.2.2.2.2 : (Nat → Int32))) ∧ (S_NH_powerModulo_et_c142_8 x2 x3 x4 x5 t0_0 t0_1 t1_0 t2_0 t2_1 t3_0 t4_0 t4_1 t5_0 t6_0 t6_1 t7_0 t8_0 t8_1 t9_0 t10_0 t10_1 t11_0 t12_0 t12_1 t13_0 t14_0 t14_1 t15_0 t16_0 t16_1 t17_0 t18_0 t18_1 t19_0 lx88 lx140 p462 y396 y397 f398 y401 y402 f403 y406 y407 f408 y411 y412 f413 p558 (p558.1 : Int32) (p558.2.1 : Int32) (p558.2.2.1 : (Nat → Int32)) (p558.2.2.2.1 : Int32) (p558.2.2.2.2.1 : Int32) (p558.2.2.2.2.2.1 : (Nat → Int32)) (p558.2.2.2.2.2.2.1 : Int32) (p558.2.2.2.2.2.2.2.1 : Int32) (p558.2.2.2.2.2.2.2.2.1 : (Nat → Int32)) (p558.2.2.2.2.2.2.2.2.2.1 : Int32) (p558.2.2.2.2.2.2.2.2.2.2.1 : Int32) (p558.2.2.2.2.2.2.2.2.2.2.2.1 : (Nat → Int32)) ((F_NH_keepWhole x5 (p558.1 : Int32) (p558.2.1 : Int32) (p558.2.2.1 : (Nat → Int32)) (p558.2.2.2.2.2.2.2.2.2.2.2.2.1 : Int32) (p558.2.2.2.2.2.2.2.2.2.2.2.2.2.1 : Int32) (p558.2.2.2.2.2.2.2.2.2.2.2.2.2.2 : (Nat → Int32))) : (Int32 × Int32 × Int32 × (Nat → Int32))))
def S_NH_powerModulo_et_c85 (x2 : Int32) (x3 : Int32) (x4 : Int32) (x5 : Int32) (t0_0 : Int32) (t0_1 : Int32) (t1_0 : (Nat → Int32)) (t2_0 : Int32) (t2_1 : Int32) (t3_0 : (Nat → Int32)) (t4_0 : Int32) (t4_1 : Int32) (t5_0 : (Nat → Int32)) (t6_0 : Int32) (t6_1 : Int32) (t7_0 : (Nat → Int32)) (t8_0 : Int32) (t8_1 : Int32) (t9_0 : (Nat → Int32)) (t10_0 : Int32) (t10_1 : Int32) (t11_0 : (Nat → Int32)) (t12_0 : Int32) (t12_1 : Int32) (t13_0 : (Nat → Int32)) (t14_0 : Int32) (t14_1 : Int32) (t15_0 : (Nat → Int32)) (t16_0 : Int32) (t16_1 : Int32) (t17_0 : (Nat → Int32)) (t18_0 : Int32) (t18_1 : Int32) (t19_0 : (Nat → Int32)) (lx88 : Int32) (lx140 : Int32) (p462 : (Int32 × Int32 × Int32 × (Nat → Int32) × Int32 × Int32 × (Nat → Int32) × Int32 × Int32 × (Nat → Int32) × Int32 × Int32 × (Nat → Int32) × Int32 × Int32 × (Nat → Int32) × Int32 × Int32 × (Nat → Int32) × Int32 × Int32 × (Nat → Int32) × Int32 × Int32 × (Nat → Int32))) : Prop := if (F_NH_canHave (p462.1 : Int32)) = (0 : Int32) then ((True ∧ S_Mil_powerBelow_a (68 : Int32) (p462.2.1 : Int32) (p462.2.2.1 : Int32) (p462.2.2.2.1 : (Nat → Int32)) (p462.2.2.2.2.1 : Int32) (p462.2.2.2.2.2.1 : Int32) (p462.2.2.2.2.2.2.1 : (Nat → Int32)) t4_0 t4_1 t5_0 (p462.2.2.2.2.2.2.2.1 : Int32) (p462.2.2.2.2.2.2.2.2.1 : Int32) (p462.2.2.2.2.2.2.2.2.2.1 : (Nat → Int32)) (p462.2.2.2.2.2.2.2.2.2.2.2.2.2.2.2.2.2.2.2.2.2.2.1 : Int32) (p462.2.2.2.2.2.2.2.2.2.2.2.2.2.2.2.2.2.2.2.2.2.2.2.1 : Int32) (p462.2.2.2.2.2.2.2.2.2.2.2.2.2.2.2.2.2.2.2.2.2.2.2.2 : (Nat → Int32))) ∧ (S_NH_powerModulo_et_c136_7 x2 x3 x4 x5 t0_0 t0_1 t1_0 t2_0 t2_1 t3_0 t4_0 t4_1 t5_0 t6_0 t6_1 t7_0 t8_0 t8_1 t9_0 t10_0 t10_1 t11_0 t12_0 t12_1 t13_0 t14_0 t14_1 t15_0 t16_0 t16_1 t17_0 t18_0 t18_1 t19_0 lx88 lx140 p462 (p462.2.2.2.2.2.2.2.2.2.2.1 : Int32) (p462.2.2.2.2.2.2.2.2.2.2.2.1 : Int32) (p462.2.2.2.2.2.2.2.2.2.2.2.2.1 : (Nat → Int32)) (p462.2.2.2.2.2.2.2.2.2.2.2.2.2.1 : Int32) (p462.2.2.2.2.2.2.2.2.2.2.2.2.2.2.1 : Int32) (p462.2.2.2.2.2.2.2.2.2.2.2.2.2.2.2.1 : (Nat → Int32)) (p462.2.2.2.2.2.2.2.2.2.2.2.2.2.2.2.2.1 : Int32) (p462.2.2.2.2.2.2.2.2.2.2.2.2.2.2.2.2.2.1 : Int32) (p462.2.2.2.2.2.2.2.2.2.2.2.2.2.2.2.2.2.2.1 : (Nat → Int32)) (p462.2.2.2.2.2.2.2.2.2.2.2.2.2.2.2.2.2.2.2.1 : Int32) (p462.2.2.2.2.2.2.2.2.2.2.2.2.2.2.2.2.2.2.2.2.1 : Int32) (p462.2.2.2.2.2.2.2.2.2.2.2.2.2.2.2.2.2.2.2.2.2.1 : (Nat → Int32)) ((F_Mil_powerBelow_a (68 : Int32) (p462.2.1 : Int32) (p462.2.2.1 : Int32) (p462.2.2.2.1 : (Nat → Int32)) (p462.2.2.2.2.1 : Int32) (p462.2.2.2.2.2.1 : Int32) (p462.2.2.2.2.2.2.1 : (Nat → Int32)) t4_0 t4_1 t5_0 (p462.2.2.2.2.2.2.2.1 : Int32) (p462.2.2.2.2.2.2.2.2.1 : Int32) (p462.2.2.2.2.2.2.2.2.2.1 : (Nat → Int32)) (p462.2.2.2.2.2.2.2.2.2.2.2.2.2.2.2.2.2.2.2.2.2.2.1 : Int32) (p462.2.2.2.2.2.2.2.2.2.2.2.2.2.2.2.2.2.2.2.2.2.2.2.1 : Int32) (p462.2.2.2.2.2.2.2.2.2.2.2.2.2.2.2.2.2.2.2.2.2.2.2.2 : (Nat → Int32))) : (Int32 × Int32 × (Nat → Int32) × Int32 × Int32 × (Nat → Int32) × Int32 × Int32 × (Nat → Int32) × Int32 × Int32 × (Nat → Int32) × Int32 × Int32 × (Nat → Int32))))) else (True)
def S_NH_powerModulo_et_J54 (x2 : Int32) (x3 : Int32) (x4 : Int32) (x5 : Int32) (t0_0 : Int32) (t0_1 : Int32) (t1_0 : (Nat → Int32)) (t2_0 : Int32) (t2_1 : Int32) (t3_0 : (Nat → Int32)) (t4_0 : Int32) (t4_1 : Int32) (t5_0 : (Nat → Int32)) (t6_0 : Int32) (t6_1 : Int32) (t7_0 : (Nat → Int32)) (t8_0 : Int32) (t8_1 : Int32) (t9_0 : (Nat → Int32)) (t10_0 : Int32) (t10_1 : Int32) (t11_0 : (Nat → Int32)) (t12_0 : Int32) (t12_1 : Int32) (t13_0 : (Nat → Int32)) (t14_0 : Int32) (t14_1 : Int32) (t15_0 : (Nat → Int32)) (t16_0 : Int32) (t16_1 : Int32) (t17_0 : (Nat → Int32)) (t18_0 : Int32) (t18_1 : Int32) (t19_0 : (Nat → Int32)) (lx88 : Int32) (lx140 : Int32) : Prop := if (F_NH_canHave lx140) = (0 : Int32) then ((0 ≤ x3.toInt) ∧ ((x3.toInt ≤ 9) ∧ (if t18_1 = (0 : Int32) then ((0 ≤ x2.toInt) ∧ ((x2.toInt ≤ 9) ∧ ((True ∧ S_Mil_modulo (68 : Int32) (68 : Int32) (220 : Int32) t2_0 t2_1 t3_0 t16_0 t16_1 t17_0 t18_0 t18_1 t19_0 t0_0 t0_1 t1_0) ∧ (S_NH_powerModulo_et_c117 x2 x3 x4 x5 t0_0 t0_1 t1_0 t2_0 t2_1 t3_0 t4_0 t4_1 t5_0 t6_0 t6_1 t7_0 t8_0 t8_1 t9_0 t10_0 t10_1 t11_0 t12_0 t12_1 t13_0 t14_0 t14_1 t15_0 t16_0 t16_1 t17_0 t18_0 t18_1 t19_0 lx88 lx140 ((F_Mil_modulo (68 : Int32) (68 : Int32) (220 : Int32) t2_0 t2_1 t3_0 t16_0 t16_1 t17_0 t18_0 t18_1 t19_0 t0_0 t0_1 t1_0) : (Int32 × Int32 × (Nat → Int32) × Int32 × Int32 × (Nat → Int32) × Int32 × Int32 × (Nat → Int32))))))) else ((0 ≤ x2.toInt) ∧ ((x2.toInt ≤ 9) ∧ ((True ∧ S_Mil_inverse (68 : Int32) (68 : Int32) t0_0 t0_1 t1_0 t2_0 t2_1 t3_0 t6_0 t6_1 t7_0 t8_0 t8_1 t9_0 t10_0 t10_1 t11_0 t12_0 t12_1 t13_0 t14_0 t14_1 t15_0 t16_0 t16_1 t17_0 t18_0 t18_1 t19_0) ∧ (S_NH_powerModulo_et_c85 x2 x3 x4 x5 t0_0 t0_1 t1_0 t2_0 t2_1 t3_0 t4_0 t4_1 t5_0 t6_0 t6_1 t7_0 t8_0 t8_1 t9_0 t10_0 t10_1 t11_0 t12_0 t12_1 t13_0 t14_0 t14_1 t15_0 t16_0 t16_1 t17_0 t18_0 t18_1 t19_0 lx88 lx140 ((F_Mil_inverse (68 : Int32) (68 : Int32) t0_0 t0_1 t1_0 t2_0 t2_1 t3_0 t6_0 t6_1 t7_0 t8_0 t8_1 t9_0 t10_0 t10_1 t11_0 t12_0 t12_1 t13_0 t14_0 t14_1 t15_0 t16_0 t16_1 t17_0 t18_0 t18_1 t19_0) : (Int32 × Int32 × Int32 × (Nat → Int32) × Int32 × Int32 × (Nat → Int32) × Int32 × Int32 × (Nat → Int32) × Int32 × Int32 × (Nat → Int32) × Int32 × Int32 × (Nat → Int32) × Int32 × Int32 × (Nat → Int32) × Int32 × Int32 × (Nat → Int32) × Int32 × Int32 × (Nat → Int32)))))))))) else (True)
def S_NH_powerModulo_et_J34 (x2 : Int32) (x3 : Int32) (x4 : Int32) (x5 : Int32) (t0_0 : Int32) (t0_1 : Int32) (t1_0 : (Nat → Int32)) (t2_0 : Int32) (t2_1 : Int32) (t3_0 : (Nat → Int32)) (t4_0 : Int32) (t4_1 : Int32) (t5_0 : (Nat → Int32)) (t6_0 : Int32) (t6_1 : Int32) (t7_0 : (Nat → Int32)) (t8_0 : Int32) (t8_1 : Int32) (t9_0 : (Nat → Int32)) (t10_0 : Int32) (t10_1 : Int32) (t11_0 : (Nat → Int32)) (t12_0 : Int32) (t12_1 : Int32) (t13_0 : (Nat → Int32)) (t14_0 : Int32) (t14_1 : Int32) (t15_0 : (Nat → Int32)) (t16_0 : Int32) (t16_1 : Int32) (t17_0 : (Nat → Int32)) (t18_0 : Int32) (t18_1 : Int32) (t19_0 : (Nat → Int32)) (lx88 : Int32) : Prop := if (F_NH_need lx88) = (0 : Int32) then ((0 ≤ x4.toInt) ∧ ((x4.toInt ≤ 9) ∧ (if ((F_Big_sign (68 : Int32) t18_0 t18_1) : Int32) ≤ (0 : Int32) then (S_NH_powerModulo_et_J54 x2 x3 x4 x5 t0_0 t0_1 t1_0 t2_0 t2_1 t3_0 t4_0 t4_1 t5_0 t6_0 t6_1 t7_0 t8_0 t8_1 t9_0 t10_0 t10_1 t11_0 t12_0 t12_1 t13_0 t14_0 t14_1 t15_0 t16_0 t16_1 t17_0 t18_0 t18_1 t19_0 lx88 0) else (S_NH_powerModulo_et_J54 x2 x3 x4 x5 t0_0 t0_1 t1_0 t2_0 t2_1 t3_0 t4_0 t4_1 t5_0 t6_0 t6_1 t7_0 t8_0 t8_1 t9_0 t10_0 t10_1 t11_0 t12_0 t12_1 t13_0 t14_0 t14_1 t15_0 t16_0 t16_1 t17_0 t18_0 t18_1 t19_0 lx88 1)))) else (True)
def S_NH_powerModulo_et_J33 (x2 : Int32) (x3 : Int32) (x4 : Int32) (x5 : Int32) (t0_0 : Int32) (t0_1 : Int32) (t1_0 : (Nat → Int32)) (t2_0 : Int32) (t2_1 : Int32) (t3_0 : (Nat → Int32)) (t4_0 : Int32) (t4_1 : Int32) (t5_0 : (Nat → Int32)) (t6_0 : Int32) (t6_1 : Int32) (t7_0 : (Nat → Int32)) (t8_0 : Int32) (t8_1 : Int32) (t9_0 : (Nat → Int32)) (t10_0 : Int32) (t10_1 : Int32) (t11_0 : (Nat → Int32)) (t12_0 : Int32) (t12_1 : Int32) (t13_0 : (Nat → Int32)) (t14_0 : Int32) (t14_1 : Int32) (t15_0 : (Nat → Int32)) (t16_0 : Int32) (t16_1 : Int32) (t17_0 : (Nat → Int32)) (t18_0 : Int32) (t18_1 : Int32) (t19_0 : (Nat → Int32)) : Prop := S_NH_powerModulo_et_J34 x2 x3 x4 x5 t0_0 t0_1 t1_0 t2_0 t2_1 t3_0 t4_0 t4_1 t5_0 t6_0 t6_1 t7_0 t8_0 t8_1 t9_0 t10_0 t10_1 t11_0 t12_0 t12_1 t13_0 t14_0 t14_1 t15_0 t16_0 t16_1 t17_0 t18_0 t18_1 t19_0 0
def S_NH_powerModulo_et (x2 : Int32) (x3 : Int32) (x4 : Int32) (x5 : Int32) (t0_0 : Int32) (t0_1 : Int32) (t1_0 : (Nat → Int32)) (t2_0 : Int32) (t2_1 : Int32) (t3_0 : (Nat → Int32)) (t4_0 : Int32) (t4_1 : Int32) (t5_0 : (Nat → Int32)) (t6_0 : Int32) (t6_1 : Int32) (t7_0 : (Nat → Int32)) (t8_0 : Int32) (t8_1 : Int32) (t9_0 : (Nat → Int32)) (t10_0 : Int32) (t10_1 : Int32) (t11_0 : (Nat → Int32)) (t12_0 : Int32) (t12_1 : Int32) (t13_0 : (Nat → Int32)) (t14_0 : Int32) (t14_1 : Int32) (t15_0 : (Nat → Int32)) (t16_0 : Int32) (t16_1 : Int32) (t17_0 : (Nat → Int32)) (t18_0 : Int32) (t18_1 : Int32) (t19_0 : (Nat → Int32)) : Prop := if ((F_NH_isRegister x2) : Int32) = (0 : Int32) then (S_NH_powerModulo_et_J33 x2 x3 x4 x5 t0_0 t0_1 t1_0 t2_0 t2_1 t3_0 t4_0 t4_1 t5_0 t6_0 t6_1 t7_0 t8_0 t8_1 t9_0 t10_0 t10_1 t11_0 t12_0 t12_1 t13_0 t14_0 t14_1 t15_0 t16_0 t16_1 t17_0 t18_0 t18_1 t19_0) else (if ((F_NH_isRegister x3) : Int32) = (0 : Int32) then (S_NH_powerModulo_et_J33 x2 x3 x4 x5 t0_0 t0_1 t1_0 t2_0 t2_1 t3_0 t4_0 t4_1 t5_0 t6_0 t6_1 t7_0 t8_0 t8_1 t9_0 t10_0 t10_1 t11_0 t12_0 t12_1 t13_0 t14_0 t14_1 t15_0 t16_0 t16_1 t17_0 t18_0 t18_1 t19_0) else (if ((F_NH_isRegister x4) : Int32) = (0 : Int32) then (S_NH_powerModulo_et_J33 x2 x3 x4 x5 t0_0 t0_1 t1_0 t2_0 t2_1 t3_0 t4_0 t4_1 t5_0 t6_0 t6_1 t7_0 t8_0 t8_1 t9_0 t10_0 t10_1 t11_0 t12_0 t12_1 t13_0 t14_0 t14_1 t15_0 t16_0 t16_1 t17_0 t18_0 t18_1 t19_0) else (if ((F_NH_isRegister x5) : Int32) = (0 : Int32) then (S_NH_powerModulo_et_J33 x2 x3 x4 x5 t0_0 t0_1 t1_0 t2_0 t2_1 t3_0 t4_0 t4_1 t5_0 t6_0 t6_1 t7_0 t8_0 t8_1 t9_0 t10_0 t10_1 t11_0 t12_0 t12_1 t13_0 t14_0 t14_1 t15_0 t16_0 t16_1 t17_0 t18_0 t18_1 t19_0) else (S_NH_powerModulo_et_J34 x2 x3 x4 x5 t0_0 t0_1 t1_0 t2_0 t2_1 t3_0 t4_0 t4_1 t5_0 t6_0 t6_1 t7_0 t8_0 t8_1 t9_0 t10_0 t10_1 t11_0 t12_0 t12_1 t13_0 t14_0 t14_1 t15_0 t16_0 t16_1 t17_0 t18_0 t18_1 t19_0 1))))
set_option maxRecDepth 100000 in
set_option maxHeartbeats 4000000 in
theorem X_NH_powerModulo_et (l : Launch) (D : va_G) (g : Nat → ClassId) (q : Nat → Nat) (ws : va_W) (x2 : Int32) (x3 : Int32) (x4 : Int32) (x5 : Int32) (k2 : Nat) (hBk2 : q_isBig (nsh g q) g q k2 68) (yk2 : 66 ≤ k2) (gk2x2 : x2.toNatClampNeg < 10 → k2 = 66 + 5 * x2.toNatClampNeg) (k4 : Nat) (hBk4 : q_isBig (nsh g q) g q k4 68) (yk4 : 66 ≤ k4) (gk4x3 : x3.toNatClampNeg < 10 → k4 = 66 + 5 * x3.toNatClampNeg) (gk4x4 : x4.toNatClampNeg < 10 → k4 = 66 + 5 * x4.toNatClampNeg) (gk4x5 : x5.toNatClampNeg < 10 → k4 = 66 + 5 * x5.toNatClampNeg) (ne_k2_k4 : k2 ≠ k4) (ne_k2_k4p1 : k2 ≠ k4 + 1) (ne_k4_k2p1 : k4 ≠ k2 + 1) (hlt : l.stackTraces = false) (hI : q_I (nsh g q) q ws) (t0_0 : Int32) (t0_1 : Int32) (hT0 : ws[10]? = (some (q 10, .inr (2, [.ref (q 11), .int t0_0, .int t0_1])) : Option (Nat × va_E))) (t1_0 : (Nat → Int32)) (hT1 : ws[11]? = (some (q 11, .inl (g 0, (220 : Int32).toNatClampNeg, .inl t1_0)) : Option (Nat × va_E))) (t2_0 : Int32) (t2_1 : Int32) (hT2 : ws[12]? = (some (q 12, .inr (2, [.ref (q 13), .int t2_0, .int t2_1])) : Option (Nat × va_E))) (t3_0 : (Nat → Int32)) (hT3 : ws[13]? = (some (q 13, .inl (g 0, (220 : Int32).toNatClampNeg, .inl t3_0)) : Option (Nat × va_E))) (t4_0 : Int32) (t4_1 : Int32) (hT4 : ws[14]? = (some (q 14, .inr (2, [.ref (q 15), .int t4_0, .int t4_1])) : Option (Nat × va_E))) (t5_0 : (Nat → Int32)) (hT5 : ws[15]? = (some (q 15, .inl (g 0, (220 : Int32).toNatClampNeg, .inl t5_0)) : Option (Nat × va_E))) (t6_0 : Int32) (t6_1 : Int32) (hT6 : ws[18]? = (some (q 18, .inr (2, [.ref (q 19), .int t6_0, .int t6_1])) : Option (Nat × va_E))) (t7_0 : (Nat → Int32)) (hT7 : ws[19]? = (some (q 19, .inl (g 0, (220 : Int32).toNatClampNeg, .inl t7_0)) : Option (Nat × va_E))) (t8_0 : Int32) (t8_1 : Int32) (hT8 : ws[22]? = (some (q 22, .inr (2, [.ref (q 23), .int t8_0, .int t8_1])) : Option (Nat × va_E))) (t9_0 : (Nat → Int32)) (hT9 : ws[23]? = (some (q 23, .inl (g 0, (220 : Int32).toNatClampNeg, .inl t9_0)) : Option (Nat × va_E))) (t10_0 : Int32) (t10_1 : Int32) (hT10 : ws[24]? = (some (q 24, .inr (2, [.ref (q 25), .int t10_0, .int t10_1])) : Option (Nat × va_E))) (t11_0 : (Nat → Int32)) (hT11 : ws[25]? = (some (q 25, .inl (g 0, (220 : Int32).toNatClampNeg, .inl t11_0)) : Option (Nat × va_E))) (t12_0 : Int32) (t12_1 : Int32) (hT12 : ws[26]? = (some (q 26, .inr (2, [.ref (q 27), .int t12_0, .int t12_1])) : Option (Nat × va_E))) (t13_0 : (Nat → Int32)) (hT13 : ws[27]? = (some (q 27, .inl (g 0, (220 : Int32).toNatClampNeg, .inl t13_0)) : Option (Nat × va_E))) (t14_0 : Int32) (t14_1 : Int32) (hT14 : ws[28]? = (some (q 28, .inr (2, [.ref (q 29), .int t14_0, .int t14_1])) : Option (Nat × va_E))) (t15_0 : (Nat → Int32)) (hT15 : ws[29]? = (some (q 29, .inl (g 0, (220 : Int32).toNatClampNeg, .inl t15_0)) : Option (Nat × va_E))) (t16_0 : Int32) (t16_1 : Int32) (hT16 : ws[k2]? = (some (q k2, .inr (2, [.ref (q (k2 + 1)), .int t16_0, .int t16_1])) : Option (Nat × va_E))) (t17_0 : (Nat → Int32)) (hT17 : ws[k2 + 1]? = (some (q (k2 + 1), .inl (g 0, (68 : Int32).toNatClampNeg, .inl t17_0)) : Option (Nat × va_E))) (t18_0 : Int32) (t18_1 : Int32) (hT18 : ws[k4]? = (some (q k4, .inr (2, [.ref (q (k4 + 1)), .int t18_0, .int t18_1])) : Option (Nat × va_E))) (t19_0 : (Nat → Int32)) (hT19 : ws[k4 + 1]? = (some (q (k4 + 1), .inl (g 0, (68 : Int32).toNatClampNeg, .inl t19_0)) : Option (Nat × va_E))) (hS : True ∧ S_NH_powerModulo_et x2 x3 x4 x5 t0_0 t0_1 t1_0 t2_0 t2_1 t3_0 t4_0 t4_1 t5_0 t6_0 t6_1 t7_0 t8_0 t8_1 t9_0 t10_0 t10_1 t11_0 t12_0 t12_1 t13_0 t14_0 t14_1 t15_0 t16_0 t16_1 t17_0 t18_0 t18_1 t19_0) : ∀ sz, q_Mx l y_NH_powerModulo prog_1_method_10_code 5 none 9 4 24 D g [.ref (q 0), .int x2, .int x3, .int x4, .int x5] ws sz (va_Qv (fun u => q_I (nsh g q) q u ∧ q_un ws u [10, 11, 12, 13, 14, 15, 18, 19, 22, 23, 24, 25, 26, 27, 28, 29, k4, k4 + 1] ∧ ∃ (u0_0 : Int32) (u0_1 : Int32) (u1_0 : (Nat → Int32)) (u2_0 : Int32) (u2_1 : Int32) (u3_0 : (Nat → Int32)) (u4_0 : Int32) (u4_1 : Int32) (u5_0 : (Nat → Int32)) (u6_0 : Int32) (u6_1 : Int32) (u7_0 : (Nat → Int32)) (u8_0 : Int32) (u8_1 : Int32) (u9_0 : (Nat → Int32)) (u10_0 : Int32) (u10_1 : Int32) (u11_0 : (Nat → Int32)) (u12_0 : Int32) (u12_1 : Int32) (u13_0 : (Nat → Int32)) (u14_0 : Int32) (u14_1 : Int32) (u15_0 : (Nat → Int32)) (u18_0 : Int32) (u18_1 : Int32) (u19_0 : (Nat → Int32)), u[10]? = (some (q 10, .inr (2, [.ref (q 11), .int u0_0, .int u0_1])) : Option (Nat × va_E)) ∧ u[11]? = (some (q 11, .inl (g 0, (220 : Int32).toNatClampNeg, .inl u1_0)) : Option (Nat × va_E)) ∧ u[12]? = (some (q 12, .inr (2, [.ref (q 13), .int u2_0, .int u2_1])) : Option (Nat × va_E)) ∧ u[13]? = (some (q 13, .inl (g 0, (220 : Int32).toNatClampNeg, .inl u3_0)) : Option (Nat × va_E)) ∧ u[14]? = (some (q 14, .inr (2, [.ref (q 15), .int u4_0, .int u4_1])) : Option (Nat × va_E)) ∧ u[15]? = (some (q 15, .inl (g 0, (220 : Int32).toNatClampNeg, .inl u5_0)) : Option (Nat × va_E)) ∧ u[18]? = (some (q 18, .inr (2, [.ref (q 19), .int u6_0, .int u6_1])) : Option (Nat × va_E)) ∧ u[19]? = (some (q 19, .inl (g 0, (220 : Int32).toNatClampNeg, .inl u7_0)) : Option (Nat × va_E)) ∧ u[22]? = (some (q 22, .inr (2, [.ref (q 23), .int u8_0, .int u8_1])) : Option (Nat × va_E)) ∧ u[23]? = (some (q 23, .inl (g 0, (220 : Int32).toNatClampNeg, .inl u9_0)) : Option (Nat × va_E)) ∧ u[24]? = (some (q 24, .inr (2, [.ref (q 25), .int u10_0, .int u10_1])) : Option (Nat × va_E)) ∧ u[25]? = (some (q 25, .inl (g 0, (220 : Int32).toNatClampNeg, .inl u11_0)) : Option (Nat × va_E)) ∧ u[26]? = (some (q 26, .inr (2, [.ref (q 27), .int u12_0, .int u12_1])) : Option (Nat × va_E)) ∧ u[27]? = (some (q 27, .inl (g 0, (220 : Int32).toNatClampNeg, .inl u13_0)) : Option (Nat × va_E)) ∧ u[28]? = (some (q 28, .inr (2, [.ref (q 29), .int u14_0, .int u14_1])) : Option (Nat × va_E)) ∧ u[29]? = (some (q 29, .inl (g 0, (220 : Int32).toNatClampNeg, .inl u15_0)) : Option (Nat × va_E)) ∧ u[k4]? = (some (q k4, .inr (2, [.ref (q (k4 + 1)), .int u18_0, .int u18_1])) : Option (Nat × va_E)) ∧ u[k4 + 1]? = (some (q (k4 + 1), .inl (g 0, (68 : Int32).toNatClampNeg, .inl u19_0)) : Option (Nat × va_E)) ∧ (0 ≤ u0_0.toInt) ∧ (u0_0.toInt ≤ 220) ∧ (0 ≤ u0_1.toInt) ∧ (u0_1.toInt ≤ 1) ∧ (0 ≤ u2_0.toInt) ∧ (u2_0.toInt ≤ 220) ∧ (0 ≤ u2_1.toInt) ∧ (u2_1.toInt ≤ 0) ∧ (0 ≤ u4_0.toInt) ∧ (u4_0.toInt ≤ 220) ∧ (0 ≤ u4_1.toInt) ∧ (u4_1.toInt ≤ 1) ∧ (0 ≤ u6_0.toInt) ∧ (u6_0.toInt ≤ 220) ∧ (0 ≤ u6_1.toInt) ∧ (u6_1.toInt ≤ 1) ∧ (0 ≤ u8_0.toInt) ∧ (u8_0.toInt ≤ 220) ∧ (0 ≤ u8_1.toInt) ∧ (u8_1.toInt ≤ 1) ∧ (0 ≤ u10_0.toInt) ∧ (u10_0.toInt ≤ 220) ∧ (0 ≤ u10_1.toInt) ∧ (u10_1.toInt ≤ 2) ∧ (0 ≤ u12_0.toInt) ∧ (u12_0.toInt ≤ 220) ∧ (0 ≤ u12_1.toInt) ∧ (u12_1.toInt ≤ 1) ∧ (0 ≤ u14_0.toInt) ∧ (u14_0.toInt ≤ 220) ∧ (0 ≤ u14_1.toInt) ∧ (u14_1.toInt ≤ 1) ∧ (0 ≤ u18_0.toInt) ∧ (u18_0.toInt ≤ 68) ∧ (x2.toInt ≤ u2_1.toInt + 9) ∧ (u2_1.toInt ≤ x2.toInt) ∧ (x3.toInt ≤ u2_1.toInt + 9) ∧ (u2_1.toInt ≤ x3.toInt) ∧ (x4.toInt ≤ u2_1.toInt + 9) ∧ (u2_1.toInt ≤ x4.toInt) ∧ (u10_1.toInt ≤ t18_0.toInt + 1) ∧ (u10_1.toInt ≤ t18_1.toInt + 1) ∧ (x5.toInt ≤ u18_0.toInt + 9) ∧ (u18_0.toInt ≤ x5.toInt + 68) ∧ (x5.toInt ≤ u18_1.toInt + 9) ∧ (u18_1.toInt ≤ x5.toInt + 1) ∧ (u0_0.toInt ≤ u4_0.toInt) ∧ (u18_0.toInt ≤ u0_0.toInt) ∧ (u18_1.toInt ≤ u0_1.toInt) ∧ (u0_1.toInt ≤ u18_1.toInt) ∧ (u18_1.toInt ≤ u4_1.toInt) ∧ (u4_1.toInt ≤ u18_1.toInt) ∧ ((0 : Int32), u0_0, u0_1, u1_0, u2_0, u2_1, u3_0, u4_0, u4_1, u5_0, u6_0, u6_1, u7_0, u8_0, u8_1, u9_0, u10_0, u10_1, u11_0, u12_0, u12_1, u13_0, u14_0, u14_1, u15_0, u18_0, u18_1, u19_0) = (F_NH_powerModulo_et x2 x3 x4 x5 t0_0 t0_1 t1_0 t2_0 t2_1 t3_0 t4_0 t4_1 t5_0 t6_0 t6_1 t7_0 t8_0 t8_1 t9_0 t10_0 t10_1 t11_0 t12_0 t12_1 t13_0 t14_0 t14_1 t15_0 t16_0 t16_1 t17_0 t18_0 t18_1 t19_0)) (q_B D g (va_A ws sz)) (va_A ws sz)) (fun E u => ∃ c : Int32, E = qE c ∧ c ≠ 0 ∧ q_I (nsh g q) q u ∧ q_un ws u [10, 11, 12, 13, 14, 15, 18, 19, 22, 23, 24, 25, 26, 27, 28, 29, k4, k4 + 1] ∧ ∃ (u0_0 : Int32) (u0_1 : Int32) (u1_0 : (Nat → Int32)) (u2_0 : Int32) (u2_1 : Int32) (u3_0 : (Nat → Int32)) (u4_0 : Int32) (u4_1 : Int32) (u5_0 : (Nat → Int32)) (u6_0 : Int32) (u6_1 : Int32) (u7_0 : (Nat → Int32)) (u8_0 : Int32) (u8_1 : Int32) (u9_0 : (Nat → Int32)) (u10_0 : Int32) (u10_1 : Int32) (u11_0 : (Nat → Int32)) (u12_0 : Int32) (u12_1 : Int32) (u13_0 : (Nat → Int32)) (u14_0 : Int32) (u14_1 : Int32) (u15_0 : (Nat → Int32)) (u18_0 : Int32) (u18_1 : Int32) (u19_0 : (Nat → Int32)), u[10]? = (some (q 10, .inr (2, [.ref (q 11), .int u0_0, .int u0_1])) : Option (Nat × va_E)) ∧ u[11]? = (some (q 11, .inl (g 0, (220 : Int32).toNatClampNeg, .inl u1_0)) : Option (Nat × va_E)) ∧ u[12]? = (some (q 12, .inr (2, [.ref (q 13), .int u2_0, .int u2_1])) : Option (Nat × va_E)) ∧ u[13]? = (some (q 13, .inl (g 0, (220 : Int32).toNatClampNeg, .inl u3_0)) : Option (Nat × va_E)) ∧ u[14]? = (some (q 14, .inr (2, [.ref (q 15), .int u4_0, .int u4_1])) : Option (Nat × va_E)) ∧ u[15]? = (some (q 15, .inl (g 0, (220 : Int32).toNatClampNeg, .inl u5_0)) : Option (Nat × va_E)) ∧ u[18]? = (some (q 18, .inr (2, [.ref (q 19), .int u6_0, .int u6_1])) : Option (Nat × va_E)) ∧ u[19]? = (some (q 19, .inl (g 0, (220 : Int32).toNatClampNeg, .inl u7_0)) : Option (Nat × va_E)) ∧ u[22]? = (some (q 22, .inr (2, [.ref (q 23), .int u8_0, .int u8_1])) : Option (Nat × va_E)) ∧ u[23]? = (some (q 23, .inl (g 0, (220 : Int32).toNatClampNeg, .inl u9_0)) : Option (Nat × va_E)) ∧ u[24]? = (some (q 24, .inr (2, [.ref (q 25), .int u10_0, .int u10_1])) : Option (Nat × va_E)) ∧ u[25]? = (some (q 25, .inl (g 0, (220 : Int32).toNatClampNeg, .inl u11_0)) : Option (Nat × va_E)) ∧ u[26]? = (some (q 26, .inr (2, [.ref (q 27), .int u12_0, .int u12_1])) : Option (Nat × va_E)) ∧ u[27]? = (some (q 27, .inl (g 0, (220 : Int32).toNatClampNeg, .inl u13_0)) : Option (Nat × va_E)) ∧ u[28]? = (some (q 28, .inr (2, [.ref (q 29), .int u14_0, .int u14_1])) : Option (Nat × va_E)) ∧ u[29]? = (some (q 29, .inl (g 0, (220 : Int32).toNatClampNeg, .inl u15_0)) : Option (Nat × va_E)) ∧ u[k4]? = (some (q k4, .inr (2, [.ref (q (k4 + 1)), .int u18_0, .int u18_1])) : Option (Nat × va_E)) ∧ u[k4 + 1]? = (some (q (k4 + 1), .inl (g 0, (68 : Int32).toNatClampNeg, .inl u19_0)) : Option (Nat × va_E)) ∧ (c, u0_0, u0_1, u1_0, u2_0, u2_1, u3_0, u4_0, u4_1, u5_0, u6_0, u6_1, u7_0, u8_0, u8_1, u9_0, u10_0, u10_1, u11_0, u12_0, u12_1, u13_0, u14_0, u14_1, u15_0, u18_0, u18_1, u19_0) = (F_NH_powerModulo_et x2 x3 x4 x5 t0_0 t0_1 t1_0 t2_0 t2_1 t3_0 t4_0 t4_1 t5_0 t6_0 t6_1 t7_0 t8_0 t8_1 t9_0 t10_0 t10_1 t11_0 t12_0 t12_1 t13_0 t14_0 t14_1 t15_0 t16_0 t16_1 t17_0 t18_0 t18_1 t19_0)) := by
  intro sz
  refine q_intoX (by decide) (Nat.le_of_ble_eq_true rfl) ?_
  intro p e s m below meth c ls hsz C0 V hno hl
  have hx := C0.1
  have hb := C0.2.1
  have btt0_1 := (q_bigW hI (n_b10 g q) hT0).2
  clear btt0_1
  have btt2_1 := (q_bigW hI (n_b12 g q) hT2).2
  clear btt2_1
  have btt4_1 := (q_bigW hI (n_b14 g q) hT4).2
  clear btt4_1
  have btt6_1 := (q_bigW hI (n_b18 g q) hT6).2
  clear btt6_1
  obtain ⟨btt8_0, btt8_1⟩ := q_bigW hI (n_b22 g q) hT8
  replace btt8_0 : q_F (0 ≤ t8_0.toInt ∧ t8_0.toInt ≤ 220) := btt8_0
  replace btt8_1 : q_F (0 ≤ t8_1.toInt ∧ t8_1.toInt ≤ 1) := btt8_1
  obtain ⟨btt10_0, btt10_1⟩ := q_bigW hI (n_b24 g q) hT10
  replace btt10_0 : q_F (0 ≤ t10_0.toInt ∧ t10_0.toInt ≤ 220) := btt10_0
  replace btt10_1 : q_F (0 ≤ t10_1.toInt ∧ t10_1.toInt ≤ 1) := btt10_1
  obtain ⟨btt12_0, btt12_1⟩ := q_bigW hI (n_b26 g q) hT12
  replace btt12_0 : q_F (0 ≤ t12_0.toInt ∧ t12_0.toInt ≤ 220) := btt12_0
  replace btt12_1 : q_F (0 ≤ t12_1.toInt ∧ t12_1.toInt ≤ 1) := btt12_1
  obtain ⟨btt14_0, btt14_1⟩ := q_bigW hI (n_b28 g q) hT14
  replace btt14_0 : q_F (0 ≤ t14_0.toInt ∧ t14_0.toInt ≤ 220) := btt14_0
  replace btt14_1 : q_F (0 ≤ t14_1.toInt ∧ t14_1.toInt ≤ 1) := btt14_1
  have btt16_1 := (q_bigW hI hBk2 hT16).2
  clear btt16_1
  obtain ⟨btt18_0, btt18_1⟩ := q_bigW hI hBk4 hT18
  replace btt18_0 : q_F (0 ≤ t18_0.toInt ∧ t18_0.toInt ≤ 68) := btt18_0
  replace btt18_1 : q_F (0 ≤ t18_1.toInt ∧ t18_1.toInt ≤ 1) := btt18_1
  have hF : q_un ws ws [10, 11, 12, 13, 14, 15, 18, 19, 22, 23, 24, 25, 26, 27, 28, 29, k4, k4 + 1] := q_u0
  have hl : lv_has ls 5 [(0, .ref (q 0)), (1, .int x2), (2, .int x3), (3, .int x4), (4, .int x5)] := hl
  refine lv_iload_n hx hb d_1_10_0 rfl (lv_at hl 1 rfl) ?_
  refine q_goi V (q_runS (As := [.int x2]) (rest := []) (d := 1) (mc := 0) (ms := 0) C0 V rfl LS_NH_212 (X_NH_isRegister l D g q ws  x2 hI   _) rfl hl.1 rfl (Nat.le_of_ble_eq_true rfl) ⟨by decide, by decide⟩ ⟨Nat.le_of_ble_eq_true rfl, Nat.le_of_ble_eq_true rfl⟩ d_1_10_1) (fun a83 u81 H locs hp82 V => ?_)
  obtain ⟨rfl, b84, b85, hE86⟩ := hp82
  have e87 : a83 = (F_NH_isRegister x2) := hE86
  clear b84
  clear b85
  refine q_join (X := Int32) (fun z H locs ls _ => q_F (0 ≤ z.toInt) ∧ q_F (z.toInt ≤ 1) ∧ q_Wd D g (va_A ws sz) s ws H locs ∧ lv_has ls 5 [(0, .ref (q 0)), (1, .int x2), (2, .int x3), (3, .int x4), (4, .int x5)] ∧ F_NH_powerModulo_et_J34 x2 x3 x4 x5 t0_0 t0_1 t1_0 t2_0 t2_1 t3_0 t4_0 t4_1 t5_0 t6_0 t6_1 t7_0 t8_0 t8_1 t9_0 t10_0 t10_1 t11_0 t12_0 t12_1 t13_0 t14_0 t14_1 t15_0 t16_0 t16_1 t17_0 t18_0 t18_1 t19_0 z = (F_NH_powerModulo_et x2 x3 x4 x5 t0_0 t0_1 t1_0 t2_0 t2_1 t3_0 t4_0 t4_1 t5_0 t6_0 t6_1 t7_0 t8_0 t8_1 t9_0 t10_0 t10_1 t11_0 t12_0 t12_1 t13_0 t14_0 t14_1 t15_0 t16_0 t16_1 t17_0 t18_0 t18_1 t19_0) ∧ True ∧ S_NH_powerModulo_et_J34 x2 x3 x4 x5 t0_0 t0_1 t1_0 t2_0 t2_1 t3_0 t4_0 t4_1 t5_0 t6_0 t6_1 t7_0 t8_0 t8_1 t9_0 t10_0 t10_1 t11_0 t12_0 t12_1 t13_0 t14_0 t14_1 t15_0 t16_0 t16_1 t17_0 t18_0 t18_1 t19_0 z) (fun z => [.int z]) 34 0 0 ?_ ?_
  ·
    rintro lx88 H locs ls _ hZ9
    obtain ⟨i110, hZ9⟩ := hZ9
    obtain ⟨i111, hZ9⟩ := hZ9
    obtain ⟨V, hZ9⟩ := hZ9
    obtain ⟨hl, hZ9⟩ := hZ9
    obtain ⟨hR112, hS113⟩ := hZ9
    replace i110 : q_F (0 ≤ lx88.toInt) := i110
    replace i111 : q_F (lx88.toInt ≤ 1) := i111
    replace hl : lv_has ls 5 [(0, .ref (q 0)), (1, .int x2), (2, .int x3), (3, .int x4), (4, .int x5)] := hl
    refine q_goxv V (q_runSX (As := [.int lx88]) (rest := []) (d := 7) (mc := 1) (ms := 6) C0 V rfl LS_NH_104 (X_NH_need l D g q ws  lx88 hlt hI  ⟨(by first | with_reducible exact q_fe i110 | (have t1 : 0 ≤ lx88.toInt := i110; omega)), (by first | with_reducible exact q_fe i111 | (have t1 : lx88.toInt ≤ 1 := i111; omega))⟩ _) rfl hl.1 rfl (Nat.le_of_ble_eq_true rfl) ⟨by decide, by decide⟩ ⟨Nat.le_of_ble_eq_true rfl, Nat.le_of_ble_eq_true rfl⟩ d_1_10_34) (fun qx Ex ce u117 H locs hp118 V hce hcv hcl => ?_) (fun u117 H locs hp118 V => ?_)
    ·
      obtain ⟨cx120, he121, hc122, rfl, hE119⟩ := hp118
      have c123 : ¬ (F_NH_need lx88) = (0 : Int32) := fun z => hc122 (((hE119) : cx120 = _).trans z)
      exact q_outT hno C0 V (⟨(F_NH_need lx88), (he121.trans (congrArg qE ((hE119) : cx120 = _))), c123, hI, hF, t0_0, t0_1, t1_0, t2_0, t2_1, t3_0, t4_0, t4_1, t5_0, t6_0, t6_1, t7_0, t8_0, t8_1, t9_0, t10_0, t10_1, t11_0, t12_0, t12_1, t13_0, t14_0, t14_1, t15_0, t18_0, t18_1, t19_0, hT0, hT1, hT2, hT3, hT4, hT5, hT6, hT7, hT8, hT9, hT10, hT11, hT12, hT13, hT14, hT15, hT18, hT19, (show ((F_NH_need lx88), t0_0, t0_1, t1_0, t2_0, t2_1, t3_0, t4_0, t4_1, t5_0, t6_0, t6_1, t7_0, t8_0, t8_1, t9_0, t10_0, t10_1, t11_0, t12_0, t12_1, t13_0, t14_0, t14_1, t15_0, t18_0, t18_1, t19_0) = (F_NH_powerModulo_et x2 x3 x4 x5 t0_0 t0_1 t1_0 t2_0 t2_1 t3_0 t4_0 t4_1 t5_0 t6_0 t6_1 t7_0 t8_0 t8_1 t9_0 t10_0 t10_1 t11_0 t12_0 t12_1 t13_0 t14_0 t14_1 t15_0 t16_0 t16_1 t17_0 t18_0 t18_1 t19_0) from Eq.trans (by rw [F_NH_powerModulo_et_J34.eq_1, if_neg c123]) hR112)⟩) hce hcv hcl (Nat.le_of_ble_eq_true rfl) (Nat.le_of_ble_eq_true rfl)
    ·
      obtain ⟨rfl, hE124⟩ := hp118
      have c123 : (F_NH_need lx88) = (0 : Int32) := ((hE124) : (0 : Int32) = _).symm
      refine lv_aload_n hx hb d_1_10_37 rfl (lv_at hl 0 rfl) ?_
      have hO126 := n_o0 hI
      refine q_get (ci := 0) (j := 2) (v := .ref (q 5)) C0 V i_NH rfl rfl hO126 (by decide) w_426 rfl d_1_10_38 ?_
      refine lv_iload_n hx hb d_1_10_41 rfl (lv_at hl 3 rfl) ?_
      have hX127 := n_fx hI (n_s5 g q)
      have ob128 : q_F (0 ≤ x4.toInt) := (by have h := hS113; rw [S_NH_powerModulo_et_J34.eq_1] at h; rw [if_pos c123] at h; exact h.2.1)
      have ob129 : q_F (x4.toInt ≤ 9) := (by have h := hS113; rw [S_NH_powerModulo_et_J34.eq_1] at h; rw [if_pos c123] at h; replace h := q_s2 h; exact h.2.1)
      have hj130 : x4.toNatClampNeg < 10 := by have z := q_clI (i := x4) (x := x4.toInt) rfl (by first | with_reducible exact q_fe ob128 | (have t1 : 0 ≤ x4.toInt := ob128; omega)); have t1 : 0 ≤ x4.toInt := ob128; have t2 : x4.toInt ≤ 9 := ob129; omega
      have hq131 := gk4x4 hj130
      refine q_aald (t := 4) (q := q k4) C0 V hX127 rfl (q_ix (x := x4.toInt) rfl (by first | with_reducible exact q_fe ob128 | (have t1 : 0 ≤ x4.toInt := ob128; omega)) (by have t1 : 0 ≤ x4.toInt := ob128; have t2 : x4.toInt ≤ 9 := ob129; omega)) (by rw [hq131]; exact n_fwv hj130) d_1_10_42 ?_
      refine q_goi V (q_runV (As := []) (rest := []) (d := 1) (mc := 0) (ms := 0) (ci := 2) C0 V rfl LV_NH_225 (X_Big_sign l D g q ws k4 68 hBk4 (Or.inr yk4)  hI t18_0 t18_1 hT18  _) rfl rfl hT18 rfl hl.1 rfl (Nat.le_of_ble_eq_true rfl) ⟨by decide, by decide⟩ ⟨Nat.le_of_ble_eq_true rfl, Nat.le_of_ble_eq_true rfl⟩ d_1_10_43) (fun a134 u132 H locs hp133 V => ?_)
      obtain ⟨rfl, b135, b136, b137, hE138⟩ := hp133
      have e139 : a134 = (F_Big_sign (68 : Int32) t18_0 t18_1) := hE138
      clear b135
      clear b136
      clear b137
      refine q_join (X := Int32) (fun z H locs ls _ => q_F (0 ≤ z.toInt) ∧ q_F (z.toInt ≤ 1) ∧ q_Wd D g (va_A ws sz) s ws H locs ∧ lv_has ls 5 [(0, .ref (q 0)), (1, .int x2), (2, .int x3), (3, .int x4), (4, .int x5)] ∧ F_NH_powerModulo_et_J54 x2 x3 x4 x5 t0_0 t0_1 t1_0 t2_0 t2_1 t3_0 t4_0 t4_1 t5_0 t6_0 t6_1 t7_0 t8_0 t8_1 t9_0 t10_0 t10_1 t11_0 t12_0 t12_1 t13_0 t14_0 t14_1 t15_0 t16_0 t16_1 t17_0 t18_0 t18_1 t19_0 lx88 z = (F_NH_powerModulo_et x2 x3 x4 x5 t0_0 t0_1 t1_0 t2_0 t2_1 t3_0 t4_0 t4_1 t5_0 t6_0 t6_1 t7_0 t8_0 t8_1 t9_0 t10_0 t10_1 t11_0 t12_0 t12_1 t13_0 t14_0 t14_1 t15_0 t16_0 t16_1 t17_0 t18_0 t18_1 t19_0) ∧ True ∧ S_NH_powerModulo_et_J54 x2 x3 x4 x5 t0_0 t0_1 t1_0 t2_0 t2_1 t3_0 t4_0 t4_1 t5_0 t6_0 t6_1 t7_0 t8_0 t8_1 t9_0 t10_0 t10_1 t11_0 t12_0 t12_1 t13_0 t14_0 t14_1 t15_0 t16_0 t16_1 t17_0 t18_0 t18_1 t19_0 lx88 z) (fun z => [.int z]) 54 1 6 ?_ ?_
      ·
        rintro lx140 H locs ls _ hZ9
        obtain ⟨i162, hZ9⟩ := hZ9
        obtain ⟨i163, hZ9⟩ := hZ9
        obtain ⟨V, hZ9⟩ := hZ9
        obtain ⟨hl, hZ9⟩ := hZ9
        obtain ⟨hR164, hS165⟩ := hZ9
        replace i162 : q_F (0 ≤ lx140.toInt) := i162
        replace i163 : q_F (lx140.toInt ≤ 1) := i163
        replace hl : lv_has ls 5 [(0, .ref (q 0)), (1, .int x2), (2, .int x3), (3, .int x4), (4, .int x5)] := hl
        refine q_goxv V (q_runSX (As := [.int lx140]) (rest := []) (d := 7) (mc := 1) (ms := 6) C0 V rfl LS_NH_138 (X_NH_canHave l D g q ws  lx140 hlt hI  ⟨(by first | with_reducible exact q_fe i162 | (have t1 : 0 ≤ lx140.toInt := i162; omega)), (by first | with_reducible exact q_fe i163 | (have t1 : lx140.toInt ≤ 1 := i163; omega))⟩ _) rfl hl.1 rfl (Nat.le_of_ble_eq_true rfl) ⟨by decide, by decide⟩ ⟨Nat.le_of_ble_eq_true rfl, Nat.le_of_ble_eq_true rfl⟩ d_1_10_54) (fun qx Ex ce u169 H locs hp170 V hce hcv hcl => ?_) (fun u169 H locs hp170 V => ?_)
        ·
          obtain ⟨cx172, he173, hc174, rfl, hE171⟩ := hp170
          have c175 : ¬ (F_NH_canHave lx140) = (0 : Int32) := fun z => hc174 (((hE171) : cx172 = _).trans z)
          exact q_outT hno C0 V (⟨(F_NH_canHave lx140), (he173.trans (congrArg qE ((hE171) : cx172 = _))), c175, hI, hF, t0_0, t0_1, t1_0, t2_0, t2_1, t3_0, t4_0, t4_1, t5_0, t6_0, t6_1, t7_0, t8_0, t8_1, t9_0, t10_0, t10_1, t11_0, t12_0, t12_1, t13_0, t14_0, t14_1, t15_0, t18_0, t18_1, t19_0, hT0, hT1, hT2, hT3, hT4, hT5, hT6, hT7, hT8, hT9, hT10, hT11, hT12, hT13, hT14, hT15, hT18, hT19, (show ((F_NH_canHave lx140), t0_0, t0_1, t1_0, t2_0, t2_1, t3_0, t4_0, t4_1, t5_0, t6_0, t6_1, t7_0, t8_0, t8_1, t9_0, t10_0, t10_1, t11_0, t12_0, t12_1, t13_0, t14_0, t14_1, t15_0, t18_0, t18_1, t19_0) = (F_NH_powerModulo_et x2 x3 x4 x5 t0_0 t0_1 t1_0 t2_0 t2_1 t3_0 t4_0 t4_1 t5_0 t6_0 t6_1 t7_0 t8_0 t8_1 t9_0 t10_0 t10_1 t11_0 t12_0 t12_1 t13_0 t14_0 t14_1 t15_0 t16_0 t16_1 t17_0 t18_0 t18_1 t19_0) from Eq.trans (by rw [F_NH_powerModulo_et_J54.eq_1, if_neg c175]) hR164)⟩) hce hcv hcl (Nat.le_of_ble_eq_true rfl) (Nat.le_of_ble_eq_true rfl)
        ·
          obtain ⟨rfl, hE176⟩ := hp170
          have c175 : (F_NH_canHave lx140) = (0 : Int32) := ((hE176) : (0 : Int32) = _).symm
          refine lv_aload_n hx hb d_1_10_57 rfl (lv_at hl 0 rfl) ?_
          refine q_get (ci := 0) (j := 2) (v := .ref (q 5)) C0 V i_NH rfl rfl hO126 (by decide) w_426 rfl d_1_10_58 ?_
          refine lv_iload_n hx hb d_1_10_61 rfl (lv_at hl 2 rfl) ?_
          have hX178 := n_fx hI (n_s5 g q)
          have ob179 : q_F (0 ≤ x3.toInt) := (by have h := hS165; rw [S_NH_powerModulo_et_J54.eq_1] at h; rw [if_pos c175] at h; exact h.2.1)
          have ob180 : q_F (x3.toInt ≤ 9) := (by have h := hS165; rw [S_NH_powerModulo_et_J54.eq_1] at h; rw [if_pos c175] at h; replace h := q_s2 h; exact h.2.1)
          have hj181 : x3.toNatClampNeg < 10 := by have z := q_clI (i := x3) (x := x3.toInt) rfl (by first | with_reducible exact q_fe ob179 | (have t1 : 0 ≤ x3.toInt := ob179; omega)); have t1 : 0 ≤ x3.toInt := ob179; have t2 : x3.toInt ≤ 9 := ob180; omega
          have hq182 := gk4x3 hj181
          refine q_aald (t := 4) (q := q k4) C0 V hX178 rfl (q_ix (x := x3.toInt) rfl (by first | with_reducible exact q_fe ob179 | (have t1 : 0 ≤ x3.toInt := ob179; omega)) (by have t1 : 0 ≤ x3.toInt := ob179; have t2 : x3.toInt ≤ 9 := ob180; omega)) (by rw [hq182]; exact n_fwv hj181) d_1_10_62 ?_
          refine q_get (ci := 2) (j := 2) (v := .int t18_1) C0 V i_Big rfl rfl hT18 (by decide) w_98 rfl d_1_10_63 ?_
          refine lv_if_eq (tgt := 94) hx hb d_1_10_66 (by decide) (fun c183 => ?_) (fun c183 => ?_)
          ·
            refine lv_aload_n hx hb d_1_10_94 rfl (lv_at hl 0 rfl) ?_
            refine q_get (ci := 0) (j := 6) (v := .ref (q 9)) C0 V i_NH rfl rfl hO126 (by decide) w_430 rfl d_1_10_95 ?_
            refine lv_aload_n hx hb d_1_10_98 rfl (lv_at hl 0 rfl) ?_
            refine q_get (ci := 0) (j := 2) (v := .ref (q 5)) C0 V i_NH rfl rfl hO126 (by decide) w_426 rfl d_1_10_99 ?_
            refine lv_iload_n hx hb d_1_10_102 rfl (lv_at hl 1 rfl) ?_
            have hX185 := n_fx hI (n_s5 g q)
            have ob186 : q_F (0 ≤ x2.toInt) := (by have h := hS165; rw [S_NH_powerModulo_et_J54.eq_1] at h; rw [if_pos c175] at h; replace h := q_s2 h; replace h := q_s2 h; rw [if_pos c183] at h; exact h.2.1)
            have ob187 : q_F (x2.toInt ≤ 9) := (by have h := hS165; rw [S_NH_powerModulo_et_J54.eq_1] at h; rw [if_pos c175] at h; replace h := q_s2 h; replace h := q_s2 h; rw [if_pos c183] at h; replace h := q_s2 h; exact h.2.1)
            have hj188 : x2.toNatClampNeg < 10 := by have z := q_clI (i := x2) (x := x2.toInt) rfl (by first | with_reducible exact q_fe ob186 | (have t1 : 0 ≤ x2.toInt := ob186; omega)); have t1 : 0 ≤ x2.toInt := ob186; have t2 : x2.toInt ≤ 9 := ob187; omega
            have hq189 := gk2x2 hj188
            refine q_aald (t := 4) (q := q k2) C0 V hX185 rfl (q_ix (x := x2.toInt) rfl (by first | with_reducible exact q_fe ob186 | (have t1 : 0 ≤ x2.toInt := ob186; omega)) (by have t1 : 0 ≤ x2.toInt := ob186; have t2 : x2.toInt ≤ 9 := ob187; omega)) (by rw [hq189]; exact n_fwv hj188) d_1_10_103 ?_
            refine lv_aload_n hx hb d_1_10_104 rfl (lv_at hl 0 rfl) ?_
            refine q_get (ci := 0) (j := 2) (v := .ref (q 5)) C0 V i_NH rfl rfl hO126 (by decide) w_426 rfl d_1_10_105 ?_
            refine lv_iload_n hx hb d_1_10_108 rfl (lv_at hl 3 rfl) ?_
            have hX190 := n_fx hI (n_s5 g q)
            have hj191 : x4.toNatClampNeg < 10 := by have z := q_clI (i := x4) (x := x4.toInt) rfl (by first | with_reducible exact q_fe ob128 | (have t1 : 0 ≤ x4.toInt := ob128; omega)); have t1 : 0 ≤ x4.toInt := ob128; have t2 : x4.toInt ≤ 9 := ob129; omega
            have hq192 := gk4x4 hj191
            refine q_aald (t := 4) (q := q k4) C0 V hX190 rfl (q_ix (x := x4.toInt) rfl (by first | with_reducible exact q_fe ob128 | (have t1 : 0 ≤ x4.toInt := ob128; omega)) (by have t1 : 0 ≤ x4.toInt := ob128; have t2 : x4.toInt ≤ 9 := ob129; omega)) (by rw [hq192]; exact n_fwv hj191) d_1_10_109 ?_
            refine lv_aload_n hx hb d_1_10_110 rfl (lv_at hl 0 rfl) ?_
            refine q_get (ci := 0) (j := 6) (v := .ref (q 9)) C0 V i_NH rfl rfl hO126 (by decide) w_430 rfl d_1_10_111 ?_
            have hO193 := n_o9 hI
            refine q_get (ci := 4) (j := 0) (v := .ref (q 10)) C0 V i_Mil rfl rfl hO193 (by decide) w_112 rfl d_1_10_114 ?_
            have ob194 : True ∧ S_Mil_modulo (68 : Int32) (68 : Int32) (220 : Int32) t2_0 t2_1 t3_0 t16_0 t16_1 t17_0 t18_0 t18_1 t19_0 t0_0 t0_1 t1_0 := (by have h := hS165; rw [S_NH_powerModulo_et_J54.eq_1] at h; rw [if_pos c175] at h; replace h := q_s2 h; replace h := q_s2 h; rw [if_pos c183] at h; replace h := q_s2 h; replace h := q_s2 h; with_reducible exact h.2.1)
            refine q_gov V (q_runV (As := [.ref (q k2), .ref (q k4), .ref (q 10)]) (rest := []) (d := 5) (mc := 0) (ms := 0) (ci := 4) C0 V rfl LV_NH_228 (X_Mil_modulo l D g q ws k2 68 hBk2 (Or.inr yk2) k4 68 hBk4 (Or.inr yk4) 10 220 (n_b10 g q) (by decide)  (by have z0 := yk2; omega) (by have z0 := yk2; omega) (by have z0 := yk2; omega) (by have z0 := yk4; omega) (by have z0 := yk4; omega) (by have z0 := yk4; omega) (by decide) (by decide) (by decide) (by have z0 := yk2; omega) (by have z0 := yk4; omega) (by have z := ne_k2_k4; omega) hI t2_0 t2_1 hT2 t3_0 hT3 t16_0 t16_1 hT16 t17_0 hT17 t18_0 t18_1 hT18 t19_0 hT19 t0_0 t0_1 hT0 t1_0 hT1 ob194 _) rfl rfl hO193 rfl hl.1 rfl (Nat.le_of_ble_eq_true rfl) ⟨by decide, by decide⟩ ⟨Nat.le_of_ble_eq_true rfl, Nat.le_of_ble_eq_true rfl⟩ d_1_10_117) (fun u195 H locs hp196 V => ?_)
            obtain ⟨hI, hZ9⟩ := hp196
            obtain ⟨hu228, hZ9⟩ := hZ9
            obtain ⟨y198, hZ9⟩ := hZ9
            obtain ⟨y199, hZ9⟩ := hZ9
            obtain ⟨f200, hZ9⟩ := hZ9
            obtain ⟨y203, hZ9⟩ := hZ9
            obtain ⟨y204, hZ9⟩ := hZ9
            obtain ⟨f205, hZ9⟩ := hZ9
            obtain ⟨y208, hZ9⟩ := hZ9
            obtain ⟨y209, hZ9⟩ := hZ9
            obtain ⟨f210, hZ9⟩ := hZ9
            obtain ⟨hO197, hZ9⟩ := hZ9
            obtain ⟨hA201, hZ9⟩ := hZ9
            obtain ⟨hO202, hZ9⟩ := hZ9
            obtain ⟨hA206, hZ9⟩ := hZ9
            obtain ⟨hO207, hZ9⟩ := hZ9
            obtain ⟨hA211, hZ9⟩ := hZ9
            replace hZ9 := hZ9.2.2.2.2.2.2.2.2.2.2.2.2.2.2
            obtain ⟨-, hE227⟩ := hZ9
            replace hO197 : u195[12]? = (some (q 12, .inr (2, [.ref (q 13), .int y198, .int y199])) : Option (Nat × va_E)) := hO197
            replace hA201 : u195[13]? = (some (q 13, .inl (g 0, (220 : Int32).toNatClampNeg, .inl f200)) : Option (Nat × va_E)) := hA201
            replace hO202 : u195[k4]? = (some (q k4, .inr (2, [.ref (q (k4 + 1)), .int y203, .int y204])) : Option (Nat × va_E)) := hO202
            replace hA206 : u195[k4 + 1]? = (some (q (k4 + 1), .inl (g 0, (68 : Int32).toNatClampNeg, .inl f205)) : Option (Nat × va_E)) := hA206
            replace hO207 : u195[10]? = (some (q 10, .inr (2, [.ref (q 11), .int y208, .int y209])) : Option (Nat × va_E)) := hO207
            replace hA211 : u195[11]? = (some (q 11, .inl (g 0, (220 : Int32).toNatClampNeg, .inl f210)) : Option (Nat × va_E)) := hA211
            obtain ⟨p229, e230⟩ : ∃ z, z = (F_Mil_modulo (68 : Int32) (68 : Int32) (220 : Int32) t2_0 t2_1 t3_0 t16_0 t16_1 t17_0 t18_0 t18_1 t19_0 t0_0 t0_1 t1_0) := ⟨_, rfl⟩
            have e231 : y198 = p229.1 := congrArg (fun z => z.1) (hE227.trans e230.symm)
            have e232 : y199 = p229.2.1 := congrArg (fun z => z.2.1) (hE227.trans e230.symm)
            have e233 : f200 = p229.2.2.1 := congrArg (fun z => z.2.2.1) (hE227.trans e230.symm)
            have e234 : y203 = p229.2.2.2.1 := congrArg (fun z => z.2.2.2.1) (hE227.trans e230.symm)
            have e235 : y204 = p229.2.2.2.2.1 := congrArg (fun z => z.2.2.2.2.1) (hE227.trans e230.symm)
            have e236 : f205 = p229.2.2.2.2.2.1 := congrArg (fun z => z.2.2.2.2.2.1) (hE227.trans e230.symm)
            have e237 : y208 = p229.2.2.2.2.2.2.1 := congrArg (fun z => z.2.2.2.2.2.2.1) (hE227.trans e230.symm)
            have e238 : y209 = p229.2.2.2.2.2.2.2.1 := congrArg (fun z => z.2.2.2.2.2.2.2.1) (hE227.trans e230.symm)
            have e239 : f210 = p229.2.2.2.2.2.2.2.2 := congrArg (fun z => z.2.2.2.2.2.2.2.2) (hE227.trans e230.symm)
            replace hT4 := (hu228 _ (by have z0 := yk4; simp only [List.mem_cons, List.not_mem_nil, or_false, not_or]; omega)).trans hT4
            replace hT5 := (hu228 _ (by have z0 := yk4; simp only [List.mem_cons, List.not_mem_nil, or_false, not_or]; omega)).trans hT5
            replace hT6 := (hu228 _ (by have z0 := yk4; simp only [List.mem_cons, List.not_mem_nil, or_false, not_or]; omega)).trans hT6
            replace hT7 := (hu228 _ (by have z0 := yk4; simp only [List.mem_cons, List.not_mem_nil, or_false, not_or]; omega)).trans hT7
            replace hT8 := (hu228 _ (by have z0 := yk4; simp only [List.mem_cons, List.not_mem_nil, or_false, not_or]; omega)).trans hT8
            replace hT9 := (hu228 _ (by have z0 := yk4; simp only [List.mem_cons, List.not_mem_nil, or_false, not_or]; omega)).trans hT9
            replace hT10 := (hu228 _ (by have z0 := yk4; simp only [List.mem_cons, List.not_mem_nil, or_false, not_or]; omega)).trans hT10
            replace hT11 := (hu228 _ (by have z0 := yk4; simp only [List.mem_cons, List.not_mem_nil, or_false, not_or]; omega)).trans hT11
            replace hT12 := (hu228 _ (by have z0 := yk4; simp only [List.mem_cons, List.not_mem_nil, or_false, not_or]; omega)).trans hT12
            replace hT13 := (hu228 _ (by have z0 := yk4; simp only [List.mem_cons, List.not_mem_nil, or_false, not_or]; omega)).trans hT13
            replace hT14 := (hu228 _ (by have z0 := yk4; simp only [List.mem_cons, List.not_mem_nil, or_false, not_or]; omega)).trans hT14
            replace hT15 := (hu228 _ (by have z0 := yk4; simp only [List.mem_cons, List.not_mem_nil, or_false, not_or]; omega)).trans hT15
            replace hO126 := (hu228 _ (by have z0 := yk4; simp only [List.mem_cons, List.not_mem_nil, or_false, not_or]; omega)).trans hO126
            replace hO193 := (hu228 _ (by have z0 := yk4; simp only [List.mem_cons, List.not_mem_nil, or_false, not_or]; omega)).trans hO193
            replace hF := q_uc hF hu228 (by simp)
            have hR240 := (show F_NH_powerModulo_et_c117 x2 x3 x4 x5 t0_0 t0_1 t1_0 t2_0 t2_1 t3_0 t4_0 t4_1 t5_0 t6_0 t6_1 t7_0 t8_0 t8_1 t9_0 t10_0 t10_1 t11_0 t12_0 t12_1 t13_0 t14_0 t14_1 t15_0 t16_0 t16_1 t17_0 t18_0 t18_1 t19_0 lx88 lx140 p229 = (F_NH_powerModulo_et x2 x3 x4 x5 t0_0 t0_1 t1_0 t2_0 t2_1 t3_0 t4_0 t4_1 t5_0 t6_0 t6_1 t7_0 t8_0 t8_1 t9_0 t10_0 t10_1 t11_0 t12_0 t12_1 t13_0 t14_0 t14_1 t15_0 t16_0 t16_1 t17_0 t18_0 t18_1 t19_0) from Eq.trans (by rw [e230, F_NH_powerModulo_et_J54.eq_1, if_pos c175, if_pos c183]) hR164)
            have hS241 := (show True ∧ S_NH_powerModulo_et_c117 x2 x3 x4 x5 t0_0 t0_1 t1_0 t2_0 t2_1 t3_0 t4_0 t4_1 t5_0 t6_0 t6_1 t7_0 t8_0 t8_1 t9_0 t10_0 t10_1 t11_0 t12_0 t12_1 t13_0 t14_0 t14_1 t15_0 t16_0 t16_1 t17_0 t18_0 t18_1 t19_0 lx88 lx140 p229 from (by rw [e230]; have h := hS165; rw [S_NH_powerModulo_et_J54.eq_1] at h; rw [if_pos c175] at h; replace h := q_s2 h; replace h := q_s2 h; rw [if_pos c183] at h; replace h := q_s2 h; replace h := q_s2 h; replace h := q_s2 h; with_reducible exact h))
            refine lv_aload_n hx hb d_1_10_120 rfl (lv_at hl 0 rfl) ?_
            refine q_get (ci := 0) (j := 6) (v := .ref (q 9)) C0 V i_NH rfl rfl hO126 (by decide) w_430 rfl d_1_10_121 ?_
            refine lv_aload_n hx hb d_1_10_124 rfl (lv_at hl 0 rfl) ?_
            refine q_get (ci := 0) (j := 2) (v := .ref (q 5)) C0 V i_NH rfl rfl hO126 (by decide) w_426 rfl d_1_10_125 ?_
            refine lv_iload_n hx hb d_1_10_128 rfl (lv_at hl 2 rfl) ?_
            have hX245 := n_fx hI (n_s5 g q)
            have hj246 : x3.toNatClampNeg < 10 := by have z := q_clI (i := x3) (x := x3.toInt) rfl (by first | with_reducible exact q_fe ob179 | (have t1 : 0 ≤ x3.toInt := ob179; omega)); have t1 : 0 ≤ x3.toInt := ob179; have t2 : x3.toInt ≤ 9 := ob180; omega
            have hq247 := gk4x3 hj246
            refine q_aald (t := 4) (q := q k4) C0 V hX245 rfl (q_ix (x := x3.toInt) rfl (by first | with_reducible exact q_fe ob179 | (have t1 : 0 ≤ x3.toInt := ob179; omega)) (by have t1 : 0 ≤ x3.toInt := ob179; have t2 : x3.toInt ≤ 9 := ob180; omega)) (by rw [hq247]; exact n_fwv hj246) d_1_10_129 ?_
            refine lv_aload_n hx hb d_1_10_130 rfl (lv_at hl 0 rfl) ?_
            refine q_get (ci := 0) (j := 2) (v := .ref (q 5)) C0 V i_NH rfl rfl hO126 (by decide) w_426 rfl d_1_10_131 ?_
            refine lv_iload_n hx hb d_1_10_134 rfl (lv_at hl 3 rfl) ?_
            have hX248 := n_fx hI (n_s5 g q)
            have hj249 : x4.toNatClampNeg < 10 := by have z := q_clI (i := x4) (x := x4.toInt) rfl (by first | with_reducible exact q_fe ob128 | (have t1 : 0 ≤ x4.toInt := ob128; omega)); have t1 : 0 ≤ x4.toInt := ob128; have t2 : x4.toInt ≤ 9 := ob129; omega
            have hq250 := gk4x4 hj249
            refine q_aald (t := 4) (q := q k4) C0 V hX248 rfl (q_ix (x := x4.toInt) rfl (by first | with_reducible exact q_fe ob128 | (have t1 : 0 ≤ x4.toInt := ob128; omega)) (by have t1 : 0 ≤ x4.toInt := ob128; have t2 : x4.toInt ≤ 9 := ob129; omega)) (by rw [hq250]; exact n_fwv hj249) d_1_10_135 ?_
            have ob251 : True ∧ S_Mil_powerBelow_a (68 : Int32) y208 y209 f210 y198 y199 f200 t4_0 t4_1 t5_0 t6_0 t6_1 t7_0 y203 y204 f205 := (by rw [e239, e238, e237, e236, e235, e234, e233, e232, e231]; have h := hS241; rw [S_NH_powerModulo_et_c117.eq_1] at h; with_reducible exact h.2.1)
            refine q_gov V (q_runV (As := [.ref (q k4), .ref (q k4)]) (rest := []) (d := 5) (mc := 0) (ms := 0) (ci := 4) C0 V rfl LV_NH_266 (X_Mil_powerBelow_a l D g q u195 k4 68 hBk4 (Or.inr yk4)  (by have z0 := yk4; omega) (by have z0 := yk4; omega) (by have z0 := yk4; omega) (by have z0 := yk4; omega) (by have z0 := yk4; omega) (by have z0 := yk4; omega) (by have z0 := yk4; omega) (by have z0 := yk4; omega) (by have z0 := yk4; omega) (by have z0 := yk4; omega) (by have z0 := yk4; omega) (by have z0 := yk4; omega) hI y208 y209 hO207 f210 hA211 y198 y199 hO197 f200 hA201 t4_0 t4_1 hT4 t5_0 hT5 t6_0 t6_1 hT6 t7_0 hT7 y203 y204 hO202 f205 hA206 ob251 _) rfl rfl hO193 rfl hl.1 rfl (Nat.le_of_ble_eq_true rfl) ⟨by decide, by decide⟩ ⟨Nat.le_of_ble_eq_true rfl, Nat.le_of_ble_eq_true rfl⟩ d_1_10_136) (fun u252 H locs hp253 V => ?_)
            obtain ⟨hI, hZ9⟩ := hp253
            obtain ⟨hu299, hZ9⟩ := hZ9
            obtain ⟨y255, hZ9⟩ := hZ9
            obtain ⟨y256, hZ9⟩ := hZ9
            obtain ⟨f257, hZ9⟩ := hZ9
            obtain ⟨y260, hZ9⟩ := hZ9
            obtain ⟨y261, hZ9⟩ := hZ9
            obtain ⟨f262, hZ9⟩ := hZ9
            obtain ⟨y265, hZ9⟩ := hZ9
            obtain ⟨y266, hZ9⟩ := hZ9
            obtain ⟨f267, hZ9⟩ := hZ9
            obtain ⟨y270, hZ9⟩ := hZ9
            obtain ⟨y271, hZ9⟩ := hZ9
            obtain ⟨f272, hZ9⟩ := hZ9
            obtain ⟨y275, hZ9⟩ := hZ9
            obtain ⟨y276, hZ9⟩ := hZ9
            obtain ⟨f277, hZ9⟩ := hZ9
            obtain ⟨hO254, hZ9⟩ := hZ9
            obtain ⟨hA258, hZ9⟩ := hZ9
            obtain ⟨hO259, hZ9⟩ := hZ9
            obtain ⟨hA263, hZ9⟩ := hZ9
            obtain ⟨hO264, hZ9⟩ := hZ9
            obtain ⟨hA268, hZ9⟩ := hZ9
            obtain ⟨hO269, hZ9⟩ := hZ9
            obtain ⟨hA273, hZ9⟩ := hZ9
            obtain ⟨hO274, hZ9⟩ := hZ9
            obtain ⟨hA278, hZ9⟩ := hZ9
            obtain ⟨b279, hZ9⟩ := hZ9
            obtain ⟨b280, hZ9⟩ := hZ9
            replace hZ9 := hZ9.2
            obtain ⟨b282, hZ9⟩ := hZ9
            obtain ⟨b283, hZ9⟩ := hZ9
            obtain ⟨b284, hZ9⟩ := hZ9
            obtain ⟨b285, hZ9⟩ := hZ9
            obtain ⟨b286, hZ9⟩ := hZ9
            obtain ⟨b287, hZ9⟩ := hZ9
            obtain ⟨b288, hZ9⟩ := hZ9
            obtain ⟨b289, hZ9⟩ := hZ9
            obtain ⟨b290, hZ9⟩ := hZ9
            obtain ⟨b291, hZ9⟩ := hZ9
            obtain ⟨b292, hZ9⟩ := hZ9
            obtain ⟨b293, hZ9⟩ := hZ9
            obtain ⟨b294, hZ9⟩ := hZ9
            replace hZ9 := hZ9.2.2
            obtain ⟨-, hE298⟩ := hZ9
            replace hO254 : u252[10]? = (some (q 10, .inr (2, [.ref (q 11), .int y255, .int y256])) : Option (Nat × va_E)) := hO254
            replace hA258 : u252[11]? = (some (q 11, .inl (g 0, (220 : Int32).toNatClampNeg, .inl f257)) : Option (Nat × va_E)) := hA258
            replace hO259 : u252[12]? = (some (q 12, .inr (2, [.ref (q 13), .int y260, .int y261])) : Option (Nat × va_E)) := hO259
            replace hA263 : u252[13]? = (some (q 13, .inl (g 0, (220 : Int32).toNatClampNeg, .inl f262)) : Option (Nat × va_E)) := hA263
            replace hO264 : u252[14]? = (some (q 14, .inr (2, [.ref (q 15), .int y265, .int y266])) : Option (Nat × va_E)) := hO264
            replace hA268 : u252[15]? = (some (q 15, .inl (g 0, (220 : Int32).toNatClampNeg, .inl f267)) : Option (Nat × va_E)) := hA268
            replace hO269 : u252[18]? = (some (q 18, .inr (2, [.ref (q 19), .int y270, .int y271])) : Option (Nat × va_E)) := hO269
            replace hA273 : u252[19]? = (some (q 19, .inl (g 0, (220 : Int32).toNatClampNeg, .inl f272)) : Option (Nat × va_E)) := hA273
            replace hO274 : u252[k4]? = (some (q k4, .inr (2, [.ref (q (k4 + 1)), .int y275, .int y276])) : Option (Nat × va_E)) := hO274
            replace hA278 : u252[k4 + 1]? = (some (q (k4 + 1), .inl (g 0, (68 : Int32).toNatClampNeg, .inl f277)) : Option (Nat × va_E)) := hA278
            obtain ⟨p300, e301⟩ : ∃ z, z = (F_Mil_powerBelow_a (68 : Int32) y208 y209 f210 y198 y199 f200 t4_0 t4_1 t5_0 t6_0 t6_1 t7_0 y203 y204 f205) := ⟨_, rfl⟩
            have e302 : y255 = p300.1 := congrArg (fun z => z.1) (hE298.trans e301.symm)
            have e303 : y256 = p300.2.1 := congrArg (fun z => z.2.1) (hE298.trans e301.symm)
            have e304 : f257 = p300.2.2.1 := congrArg (fun z => z.2.2.1) (hE298.trans e301.symm)
            have e305 : y260 = p300.2.2.2.1 := congrArg (fun z => z.2.2.2.1) (hE298.trans e301.symm)
            have e306 : y261 = p300.2.2.2.2.1 := congrArg (fun z => z.2.2.2.2.1) (hE298.trans e301.symm)
            have e307 : f262 = p300.2.2.2.2.2.1 := congrArg (fun z => z.2.2.2.2.2.1) (hE298.trans e301.symm)
            have e308 : y265 = p300.2.2.2.2.2.2.1 := congrArg (fun z => z.2.2.2.2.2.2.1) (hE298.trans e301.symm)
            have e309 : y266 = p300.2.2.2.2.2.2.2.1 := congrArg (fun z => z.2.2.2.2.2.2.2.1) (hE298.trans e301.symm)
            have e310 : f267 = p300.2.2.2.2.2.2.2.2.1 := congrArg (fun z => z.2.2.2.2.2.2.2.2.1) (hE298.trans e301.symm)
            have e311 : y270 = p300.2.2.2.2.2.2.2.2.2.1 := congrArg (fun z => z.2.2.2.2.2.2.2.2.2.1) (hE298.trans e301.symm)
            have e312 : y271 = p300.2.2.2.2.2.2.2.2.2.2.1 := congrArg (fun z => z.2.2.2.2.2.2.2.2.2.2.1) (hE298.trans e301.symm)
            have e313 : f272 = p300.2.2.2.2.2.2.2.2.2.2.2.1 := congrArg (fun z => z.2.2.2.2.2.2.2.2.2.2.2.1) (hE298.trans e301.symm)
            have e314 : y275 = p300.2.2.2.2.2.2.2.2.2.2.2.2.1 := congrArg (fun z => z.2.2.2.2.2.2.2.2.2.2.2.2.1) (hE298.trans e301.symm)
            have e315 : y276 = p300.2.2.2.2.2.2.2.2.2.2.2.2.2.1 := congrArg (fun z => z.2.2.2.2.2.2.2.2.2.2.2.2.2.1) (hE298.trans e301.symm)
            have e316 : f277 = p300.2.2.2.2.2.2.2.2.2.2.2.2.2.2 := congrArg (fun z => z.2.2.2.2.2.2.2.2.2.2.2.2.2.2) (hE298.trans e301.symm)
            replace b279 : q_F (0 ≤ y261.toInt) := b279
            replace b280 : q_F (y261.toInt ≤ 0) := b280
            replace b282 : q_F (y261.toInt ≤ y255.toInt) := b282
            replace b283 : q_F (y255.toInt ≤ y265.toInt) := b283
            replace b284 : q_F (y266.toInt ≤ y256.toInt) := b284
            replace b285 : q_F (y256.toInt ≤ y266.toInt) := b285
            replace b286 : q_F (y261.toInt ≤ y260.toInt) := b286
            replace b287 : q_F (y260.toInt ≤ y261.toInt + 220) := b287
            replace b288 : q_F (y265.toInt ≤ y261.toInt + 220) := b288
            replace b289 : q_F (y266.toInt ≤ y261.toInt + 1) := b289
            replace b290 : q_F (y261.toInt ≤ y266.toInt) := b290
            replace b291 : q_F (y270.toInt ≤ y261.toInt + 220) := b291
            replace b292 : q_F (y261.toInt ≤ y270.toInt) := b292
            replace b293 : q_F (y271.toInt ≤ y261.toInt + 1) := b293
            replace b294 : q_F (y261.toInt ≤ y271.toInt) := b294
            replace hT8 := (hu299 _ (by have z0 := yk4; simp only [List.mem_cons, List.not_mem_nil, or_false, not_or]; omega)).trans hT8
            replace hT9 := (hu299 _ (by have z0 := yk4; simp only [List.mem_cons, List.not_mem_nil, or_false, not_or]; omega)).trans hT9
            replace hT10 := (hu299 _ (by have z0 := yk4; simp only [List.mem_cons, List.not_mem_nil, or_false, not_or]; omega)).trans hT10
            replace hT11 := (hu299 _ (by have z0 := yk4; simp only [List.mem_cons, List.not_mem_nil, or_false, not_or]; omega)).trans hT11
            replace hT12 := (hu299 _ (by have z0 := yk4; simp only [List.mem_cons, List.not_mem_nil, or_false, not_or]; omega)).trans hT12
            replace hT13 := (hu299 _ (by have z0 := yk4; simp only [List.mem_cons, List.not_mem_nil, or_false, not_or]; omega)).trans hT13
            replace hT14 := (hu299 _ (by have z0 := yk4; simp only [List.mem_cons, List.not_mem_nil, or_false, not_or]; omega)).trans hT14
            replace hT15 := (hu299 _ (by have z0 := yk4; simp only [List.mem_cons, List.not_mem_nil, or_false, not_or]; omega)).trans hT15
            replace hO126 := (hu299 _ (by have z0 := yk4; simp only [List.mem_cons, List.not_mem_nil, or_false, not_or]; omega)).trans hO126
            replace hF := q_uc hF hu299 (by simp)
            have hR317 := (show F_NH_powerModulo_et_c136 x2 x3 x4 x5 t0_0 t0_1 t1_0 t2_0 t2_1 t3_0 t4_0 t4_1 t5_0 t6_0 t6_1 t7_0 t8_0 t8_1 t9_0 t10_0 t10_1 t11_0 t12_0 t12_1 t13_0 t14_0 t14_1 t15_0 t16_0 t16_1 t17_0 t18_0 t18_1 t19_0 lx88 lx140 p229 p300 = (F_NH_powerModulo_et x2 x3 x4 x5 t0_0 t0_1 t1_0 t2_0 t2_1 t3_0 t4_0 t4_1 t5_0 t6_0 t6_1 t7_0 t8_0 t8_1 t9_0 t10_0 t10_1 t11_0 t12_0 t12_1 t13_0 t14_0 t14_1 t15_0 t16_0 t16_1 t17_0 t18_0 t18_1 t19_0) from Eq.trans (by rw [e301, e239, e238, e237, e236, e235, e234, e233, e232, e231, F_NH_powerModulo_et_c117.eq_1]) hR240)
            have hS318 := (show True ∧ S_NH_powerModulo_et_c136 x2 x3 x4 x5 t0_0 t0_1 t1_0 t2_0 t2_1 t3_0 t4_0 t4_1 t5_0 t6_0 t6_1 t7_0 t8_0 t8_1 t9_0 t10_0 t10_1 t11_0 t12_0 t12_1 t13_0 t14_0 t14_1 t15_0 t16_0 t16_1 t17_0 t18_0 t18_1 t19_0 lx88 lx140 p229 p300 from (by rw [e301, e239, e238, e237, e236, e235, e234, e233, e232, e231]; have h := hS241; rw [S_NH_powerModulo_et_c117.eq_1] at h; replace h := q_s2 h; with_reducible exact h))
            refine lv_aload_n hx hb d_1_10_139 rfl (lv_at hl 0 rfl) ?_
            refine lv_iload hx hb d_1_10_140 (lv_at hl 4 rfl) ?_
            have ob322 : True ∧ S_NH_keepWhole x5 y255 y256 f257 y275 y276 f277 := (by rw [e316, e315, e314, e304, e303, e302]; have h := hS318; rw [S_NH_powerModulo_et_c136.eq_1] at h; with_reducible exact h.2.1)
            refine q_goxv V (q_runVX (As := [.int x5]) (rest := []) (d := 8) (mc := 1) (ms := 6) (ci := 0) C0 V rfl LV_NH_243 (X_NH_keepWhole l D g q u252  x5 k4 hBk4 yk4 gk4x5 hlt hI y255 y256 hO254 f257 hA258 y275 y276 hO274 f277 hA278 ob322 _) rfl rfl hO126 rfl hl.1 rfl (Nat.le_of_ble_eq_true rfl) ⟨by decide, by decide⟩ ⟨Nat.le_of_ble_eq_true rfl, Nat.le_of_ble_eq_true rfl⟩ d_1_10_142) (fun qx Ex ce u323 H locs hp324 V hce hcv hcl => ?_) (fun u323 H locs hp324 V => ?_)
            ·
              obtain ⟨cx331, hZ9⟩ := hp324
              obtain ⟨he332, hZ9⟩ := hZ9
              obtain ⟨hc333, hZ9⟩ := hZ9
              obtain ⟨hI, hZ9⟩ := hZ9
              obtain ⟨hu334, hZ9⟩ := hZ9
              obtain ⟨y326, hZ9⟩ := hZ9
              obtain ⟨y327, hZ9⟩ := hZ9
              obtain ⟨f328, hZ9⟩ := hZ9
              obtain ⟨hO325, hZ9⟩ := hZ9
              obtain ⟨hA329, hE330⟩ := hZ9
              replace hO325 : u323[k4]? = (some (q k4, .inr (2, [.ref (q (k4 + 1)), .int y326, .int y327])) : Option (Nat × va_E)) := hO325
              replace hA329 : u323[k4 + 1]? = (some (q (k4 + 1), .inl (g 0, (68 : Int32).toNatClampNeg, .inl f328)) : Option (Nat × va_E)) := hA329
              obtain ⟨p335, e336⟩ : ∃ z, z = (F_NH_keepWhole x5 y255 y256 f257 y275 y276 f277) := ⟨_, rfl⟩
              have c337 : ¬ p335.1 = (0 : Int32) := fun z => hc333 (((congrArg (fun z => z.1) (hE330.trans e336.symm)) : cx331 = _).trans z)
              have e338 : y326 = p335.2.1 := congrArg (fun z => z.2.1) (hE330.trans e336.symm)
              have e339 : y327 = p335.2.2.1 := congrArg (fun z => z.2.2.1) (hE330.trans e336.symm)
              have e340 : f328 = p335.2.2.2 := congrArg (fun z => z.2.2.2) (hE330.trans e336.symm)
              replace hO254 := (hu334 _ (by have z0 := yk4; simp only [List.mem_cons, List.not_mem_nil, or_false, not_or]; omega)).trans hO254
              replace hA258 := (hu334 _ (by have z0 := yk4; simp only [List.mem_cons, List.not_mem_nil, or_false, not_or]; omega)).trans hA258
              replace hO259 := (hu334 _ (by have z0 := yk4; simp only [List.mem_cons, List.not_mem_nil, or_false, not_or]; omega)).trans hO259
              replace hA263 := (hu334 _ (by have z0 := yk4; simp only [List.mem_cons, List.not_mem_nil, or_false, not_or]; omega)).trans hA263
              replace hO264 := (hu334 _ (by have z0 := yk4; simp only [List.mem_cons, List.not_mem_nil, or_false, not_or]; omega)).trans hO264
              replace hA268 := (hu334 _ (by have z0 := yk4; simp only [List.mem_cons, List.not_mem_nil, or_false, not_or]; omega)).trans hA268
              replace hO269 := (hu334 _ (by have z0 := yk4; simp only [List.mem_cons, List.not_mem_nil, or_false, not_or]; omega)).trans hO269
              replace hA273 := (hu334 _ (by have z0 := yk4; simp only [List.mem_cons, List.not_mem_nil, or_false, not_or]; omega)).trans hA273
              replace hT8 := (hu334 _ (by have z0 := yk4; simp only [List.mem_cons, List.not_mem_nil, or_false, not_or]; omega)).trans hT8
              replace hT9 := (hu334 _ (by have z0 := yk4; simp only [List.mem_cons, List.not_mem_nil, or_false, not_or]; omega)).trans hT9
              replace hT10 := (hu334 _ (by have z0 := yk4; simp only [List.mem_cons, List.not_mem_nil, or_false, not_or]; omega)).trans hT10
              replace hT11 := (hu334 _ (by have z0 := yk4; simp only [List.mem_cons, List.not_mem_nil, or_false, not_or]; omega)).trans hT11
              replace hT12 := (hu334 _ (by have z0 := yk4; simp only [List.mem_cons, List.not_mem_nil, or_false, not_or]; omega)).trans hT12
              replace hT13 := (hu334 _ (by have z0 := yk4; simp only [List.mem_cons, List.not_mem_nil, or_false, not_or]; omega)).trans hT13
              replace hT14 := (hu334 _ (by have z0 := yk4; simp only [List.mem_cons, List.not_mem_nil, or_false, not_or]; omega)).trans hT14
              replace hT15 := (hu334 _ (by have z0 := yk4; simp only [List.mem_cons, List.not_mem_nil, or_false, not_or]; omega)).trans hT15
              replace hF := q_uc hF hu334 (by simp)
              have hR341 := (show F_NH_powerModulo_et_c142 x2 x3 x4 x5 t0_0 t0_1 t1_0 t2_0 t2_1 t3_0 t4_0 t4_1 t5_0 t6_0 t6_1 t7_0 t8_0 t8_1 t9_0 t10_0 t10_1 t11_0 t12_0 t12_1 t13_0 t14_0 t14_1 t15_0 t16_0 t16_1 t17_0 t18_0 t18_1 t19_0 lx88 lx140 p229 p300 y255 y256 f257 y260 y261 f262 y265 y266 f267 y270 y271 f272 p335 = (F_NH_powerModulo_et x2 x3 x4 x5 t0_0 t0_1 t1_0 t2_0 t2_1 t3_0 t4_0 t4_1 t5_0 t6_0 t6_1 t7_0 t8_0 t8_1 t9_0 t10_0 t10_1 t11_0 t12_0 t12_1 t13_0 t14_0 t14_1 t15_0 t16_0 t16_1 t17_0 t18_0 t18_1 t19_0) from Eq.trans (by rw [e336, e316, e315, e314, e313, e312, e311, e310, e309, e308, e307, e306, e305, e304, e303, e302, F_NH_powerModulo_et_c136.eq_1]) hR317)
              have hS342 := (show True ∧ S_NH_powerModulo_et_c142 x2 x3 x4 x5 t0_0 t0_1 t1_0 t2_0 t2_1 t3_0 t4_0 t4_1 t5_0 t6_0 t6_1 t7_0 t8_0 t8_1 t9_0 t10_0 t10_1 t11_0 t12_0 t12_1 t13_0 t14_0 t14_1 t15_0 t16_0 t16_1 t17_0 t18_0 t18_1 t19_0 lx88 lx140 p229 p300 y255 y256 f257 y260 y261 f262 y265 y266 f267 y270 y271 f272 p335 from (by rw [e336, e316, e315, e314, e313, e312, e311, e310, e309, e308, e307, e306, e305, e304, e303, e302]; have h := hS318; rw [S_NH_powerModulo_et_c136.eq_1] at h; replace h := q_s2 h; with_reducible exact h))
              exact q_outT hno C0 V (⟨p335.1, (he332.trans (congrArg qE ((congrArg (fun z => z.1) (hE330.trans e336.symm)) : cx331 = _))), c337, hI, hF, y255, y256, f257, y260, y261, f262, y265, y266, f267, y270, y271, f272, t8_0, t8_1, t9_0, t10_0, t10_1, t11_0, t12_0, t12_1, t13_0, t14_0, t14_1, t15_0, y326, y327, f328, hO254, hA258, hO259, hA263, hO264, hA268, hO269, hA273, hT8, hT9, hT10, hT11, hT12, hT13, hT14, hT15, hO325, hA329, (show (p335.1, y255, y256, f257, y260, y261, f262, y265, y266, f267, y270, y271, f272, t8_0, t8_1, t9_0, t10_0, t10_1, t11_0, t12_0, t12_1, t13_0, t14_0, t14_1, t15_0, y326, y327, f328) = (F_NH_powerModulo_et x2 x3 x4 x5 t0_0 t0_1 t1_0 t2_0 t2_1 t3_0 t4_0 t4_1 t5_0 t6_0 t6_1 t7_0 t8_0 t8_1 t9_0 t10_0 t10_1 t11_0 t12_0 t12_1 t13_0 t14_0 t14_1 t15_0 t16_0 t16_1 t17_0 t18_0 t18_1 t19_0) from Eq.trans (by rw [e340, e339, e338, F_NH_powerModulo_et_c142.eq_1, if_neg c337]) hR341)⟩) hce hcv hcl (Nat.le_of_ble_eq_true rfl) (Nat.le_of_ble_eq_true rfl)
            ·
              obtain ⟨hI, hZ9⟩ := hp324
              obtain ⟨hu361, hZ9⟩ := hZ9
              obtain ⟨y347, hZ9⟩ := hZ9
              obtain ⟨y348, hZ9⟩ := hZ9
              obtain ⟨f349, hZ9⟩ := hZ9
              obtain ⟨hO346, hZ9⟩ := hZ9
              obtain ⟨hA350, hZ9⟩ := hZ9
              obtain ⟨b351, hZ9⟩ := hZ9
              obtain ⟨b352, hZ9⟩ := hZ9
              obtain ⟨b353, hZ9⟩ := hZ9
              obtain ⟨b354, hZ9⟩ := hZ9
              obtain ⟨b355, hZ9⟩ := hZ9
              obtain ⟨b356, hZ9⟩ := hZ9
              obtain ⟨b357, hZ9⟩ := hZ9
              obtain ⟨b358, hZ9⟩ := hZ9
              obtain ⟨b359, hE360⟩ := hZ9
              replace hO346 : u323[k4]? = (some (q k4, .inr (2, [.ref (q (k4 + 1)), .int y347, .int y348])) : Option (Nat × va_E)) := hO346
              replace hA350 : u323[k4 + 1]? = (some (q (k4 + 1), .inl (g 0, (68 : Int32).toNatClampNeg, .inl f349)) : Option (Nat × va_E)) := hA350
              obtain ⟨p335, e336⟩ : ∃ z, z = (F_NH_keepWhole x5 y255 y256 f257 y275 y276 f277) := ⟨_, rfl⟩
              have c337 : p335.1 = (0 : Int32) := ((congrArg (fun z => z.1) (hE360.trans e336.symm)) : (0 : Int32) = _).symm
              have e363 : y347 = p335.2.1 := congrArg (fun z => z.2.1) (hE360.trans e336.symm)
              have e364 : y348 = p335.2.2.1 := congrArg (fun z => z.2.2.1) (hE360.trans e336.symm)
              have e365 : f349 = p335.2.2.2 := congrArg (fun z => z.2.2.2) (hE360.trans e336.symm)
              replace b351 : q_F (0 ≤ y347.toInt) := b351
              replace b352 : q_F (y347.toInt ≤ 68) := b352
              replace b353 : q_F (x5.toInt ≤ y347.toInt + 9) := b353
              replace b354 : q_F (y347.toInt ≤ x5.toInt + 68) := b354
              replace b355 : q_F (y347.toInt ≤ y255.toInt) := b355
              replace b356 : q_F (x5.toInt ≤ y348.toInt + 9) := b356
              replace b357 : q_F (y348.toInt ≤ x5.toInt + 1) := b357
              replace b358 : q_F (y256.toInt ≤ y348.toInt) := b358
              replace b359 : q_F (y348.toInt ≤ y256.toInt) := b359
              replace hO254 := (hu361 _ (by have z0 := yk4; simp only [List.mem_cons, List.not_mem_nil, or_false, not_or]; omega)).trans hO254
              replace hA258 := (hu361 _ (by have z0 := yk4; simp only [List.mem_cons, List.not_mem_nil, or_false, not_or]; omega)).trans hA258
              replace hO259 := (hu361 _ (by have z0 := yk4; simp only [List.mem_cons, List.not_mem_nil, or_false, not_or]; omega)).trans hO259
              replace hA263 := (hu361 _ (by have z0 := yk4; simp only [List.mem_cons, List.not_mem_nil, or_false, not_or]; omega)).trans hA263
              replace hO264 := (hu361 _ (by have z0 := yk4; simp only [List.mem_cons, List.not_mem_nil, or_false, not_or]; omega)).trans hO264
              replace hA268 := (hu361 _ (by have z0 := yk4; simp only [List.mem_cons, List.not_mem_nil, or_false, not_or]; omega)).trans hA268
              replace hO269 := (hu361 _ (by have z0 := yk4; simp only [List.mem_cons, List.not_mem_nil, or_false, not_or]; omega)).trans hO269
              replace hA273 := (hu361 _ (by have z0 := yk4; simp only [List.mem_cons, List.not_mem_nil, or_false, not_or]; omega)).trans hA273
              replace hT8 := (hu361 _ (by have z0 := yk4; simp only [List.mem_cons, List.not_mem_nil, or_false, not_or]; omega)).trans hT8
              replace hT9 := (hu361 _ (by have z0 := yk4; simp only [List.mem_cons, List.not_mem_nil, or_false, not_or]; omega)).trans hT9
              replace hT10 := (hu361 _ (by have z0 := yk4; simp only [List.mem_cons, List.not_mem_nil, or_false, not_or]; omega)).trans hT10
              replace hT11 := (hu361 _ (by have z0 := yk4; simp only [List.mem_cons, List.not_mem_nil, or_false, not_or]; omega)).trans hT11
              replace hT12 := (hu361 _ (by have z0 := yk4; simp only [List.mem_cons, List.not_mem_nil, or_false, not_or]; omega)).trans hT12
              replace hT13 := (hu361 _ (by have z0 := yk4; simp only [List.mem_cons, List.not_mem_nil, or_false, not_or]; omega)).trans hT13
              replace hT14 := (hu361 _ (by have z0 := yk4; simp only [List.mem_cons, List.not_mem_nil, or_false, not_or]; omega)).trans hT14
              replace hT15 := (hu361 _ (by have z0 := yk4; simp only [List.mem_cons, List.not_mem_nil, or_false, not_or]; omega)).trans hT15
              replace hF := q_uc hF hu361 (by simp)
              have hR341 := (show F_NH_powerModulo_et_c142 x2 x3 x4 x5 t0_0 t0_1 t1_0 t2_0 t2_1 t3_0 t4_0 t4_1 t5_0 t6_0 t6_1 t7_0 t8_0 t8_1 t9_0 t10_0 t10_1 t11_0 t12_0 t12_1 t13_0 t14_0 t14_1 t15_0 t16_0 t16_1 t17_0 t18_0 t18_1 t19_0 lx88 lx140 p229 p300 y255 y256 f257 y260 y261 f262 y265 y266 f267 y270 y271 f272 p335 = (F_NH_powerModulo_et x2 x3 x4 x5 t0_0 t0_1 t1_0 t2_0 t2_1 t3_0 t4_0 t4_1 t5_0 t6_0 t6_1 t7_0 t8_0 t8_1 t9_0 t10_0 t10_1 t11_0 t12_0 t12_1 t13_0 t14_0 t14_1 t15_0 t16_0 t16_1 t17_0 t18_0 t18_1 t19_0) from Eq.trans (by rw [e336, e316, e315, e314, e313, e312, e311, e310, e309, e308, e307, e306, e305, e304, e303, e302, F_NH_powerModulo_et_c136.eq_1]) hR317)
              have hS342 := (show True ∧ S_NH_powerModulo_et_c142 x2 x3 x4 x5 t0_0 t0_1 t1_0 t2_0 t2_1 t3_0 t4_0 t4_1 t5_0 t6_0 t6_1 t7_0 t8_0 t8_1 t9_0 t10_0 t10_1 t11_0 t12_0 t12_1 t13_0 t14_0 t14_1 t15_0 t16_0 t16_1 t17_0 t18_0 t18_1 t19_0 lx88 lx140 p229 p300 y255 y256 f257 y260 y261 f262 y265 y266 f267 y270 y271 f272 p335 from (by rw [e336, e316, e315, e314, e313, e312, e311, e310, e309, e308, e307, e306, e305, e304, e303, e302]; have h := hS318; rw [S_NH_powerModulo_et_c136.eq_1] at h; replace h := q_s2 h; with_reducible exact h))
              refine W.widen (k := 4) (n := 24) (Nat.le_of_ble_eq_true rfl) (Nat.le_of_ble_eq_true rfl) ?_
              exact q_retX (q_retv C0 V (⟨hI, hF, y255, y256, f257, y260, y261, f262, y265, y266, f267, y270, y271, f272, t8_0, t8_1, t9_0, t10_0, t10_1, t11_0, t12_0, t12_1, t13_0, t14_0, t14_1, t15_0, y347, y348, f349, hO254, hA258, hO259, hA263, hO264, hA268, hO269, hA273, hT8, hT9, hT10, hT11, hT12, hT13, hT14, hT15, hO346, hA350, (show 0 ≤ y255.toInt from (by have t1 : 0 ≤ y261.toInt := b279; have t2 : y261.toInt ≤ y255.toInt := b282; omega)), (show y255.toInt ≤ 220 from (by have t1 : y261.toInt ≤ 0 := b280; have t2 : y255.toInt ≤ y265.toInt := b283; have t3 : y265.toInt ≤ y261.toInt + 220 := b288; omega)), (show 0 ≤ y256.toInt from (by have t1 : 0 ≤ y261.toInt := b279; have t2 : y266.toInt ≤ y256.toInt := b284; have t3 : y261.toInt ≤ y266.toInt := b290; omega)), (show y256.toInt ≤ 1 from (by have t1 : y261.toInt ≤ 0 := b280; have t2 : y256.toInt ≤ y266.toInt := b285; have t3 : y266.toInt ≤ y261.toInt + 1 := b289; omega)), (show 0 ≤ y260.toInt from (by have t1 : 0 ≤ y261.toInt := b279; have t2 : y261.toInt ≤ y260.toInt := b286; omega)), (show y260.toInt ≤ 220 from (by have t1 : y261.toInt ≤ 0 := b280; have t2 : y260.toInt ≤ y261.toInt + 220 := b287; omega)), (show 0 ≤ y261.toInt from (by first | with_reducible exact q_fe b279 | (have t1 : 0 ≤ y261.toInt := b279; omega))), (show y261.toInt ≤ 0 from (by first | with_reducible exact q_fe b280 | (have t1 : y261.toInt ≤ 0 := b280; omega))), (show 0 ≤ y265.toInt from (by have t1 : 0 ≤ y261.toInt := b279; have t2 : y261.toInt ≤ y255.toInt := b282; have t3 : y255.toInt ≤ y265.toInt := b283; omega)), (show y265.toInt ≤ 220 from (by have t1 : y261.toInt ≤ 0 := b280; have t2 : y265.toInt ≤ y261.toInt + 220 := b288; omega)), (show 0 ≤ y266.toInt from (by have t1 : 0 ≤ y261.toInt := b279; have t2 : y261.toInt ≤ y266.toInt := b290; omega)), (show y266.toInt ≤ 1 from (by have t1 : y261.toInt ≤ 0 := b280; have t2 : y266.toInt ≤ y261.toInt + 1 := b289; omega)), (show 0 ≤ y270.toInt from (by have t1 : 0 ≤ y261.toInt := b279; have t2 : y261.toInt ≤ y270.toInt := b292; omega)), (show y270.toInt ≤ 220 from (by have t1 : y261.toInt ≤ 0 := b280; have t2 : y270.toInt ≤ y261.toInt + 220 := b291; omega)), (show 0 ≤ y271.toInt from (by have t1 : 0 ≤ y261.toInt := b279; have t2 : y261.toInt ≤ y271.toInt := b294; omega)), (show y271.toInt ≤ 1 from (by have t1 : y261.toInt ≤ 0 := b280; have t2 : y271.toInt ≤ y261.toInt + 1 := b293; omega)), (show 0 ≤ t8_0.toInt from (by first | with_reducible exact (q_fe btt8_0).2 | with_reducible exact (q_fe btt8_0).1 | (have t1 : 0 ≤ t8_0.toInt ∧ t8_0.toInt ≤ 220 := btt8_0; omega))), (show t8_0.toInt ≤ 220 from (by first | with_reducible exact (q_fe btt8_0).2 | with_reducible exact (q_fe btt8_0).1 | (have t1 : 0 ≤ t8_0.toInt ∧ t8_0.toInt ≤ 220 := btt8_0; omega))), (show 0 ≤ t8_1.toInt from (by first | with_reducible exact (q_fe btt8_1).2 | with_reducible exact (q_fe btt8_1).1 | (have t1 : 0 ≤ t8_1.toInt ∧ t8_1.toInt ≤ 1 := btt8_1; omega))), (show t8_1.toInt ≤ 1 from (by first | with_reducible exact (q_fe btt8_1).2 | with_reducible exact (q_fe btt8_1).1 | (have t1 : 0 ≤ t8_1.toInt ∧ t8_1.toInt ≤ 1 := btt8_1; omega))), (show 0 ≤ t10_0.toInt from (by first | with_reducible exact (q_fe btt10_0).2 | with_reducible exact (q_fe btt10_0).1 | (have t1 : 0 ≤ t10_0.toInt ∧ t10_0.toInt ≤ 220 := btt10_0; omega))), (show t10_0.toInt ≤ 220 from (by first | with_reducible exact (q_fe btt10_0).2 | with_reducible exact (q_fe btt10_0).1 | (have t1 : 0 ≤ t10_0.toInt ∧ t10_0.toInt ≤ 220 := btt10_0; omega))), (show 0 ≤ t10_1.toInt from (by first | with_reducible exact (q_fe btt10_1).2 | with_reducible exact (q_fe btt10_1).1 | (have t1 : 0 ≤ t10_1.toInt ∧ t10_1.toInt ≤ 1 := btt10_1; omega))), (show t10_1.toInt ≤ 2 from (by first | with_reducible exact (q_fe btt10_1).2 | with_reducible exact (q_fe btt10_1).1 | (have t1 : 0 ≤ t10_1.toInt ∧ t10_1.toInt ≤ 1 := btt10_1; omega))), (show 0 ≤ t12_0.toInt from (by first | with_reducible exact (q_fe btt12_0).2 | with_reducible exact (q_fe btt12_0).1 | (have t1 : 0 ≤ t12_0.toInt ∧ t12_0.toInt ≤ 220 := btt12_0; omega))), (show t12_0.toInt ≤ 220 from (by first | with_reducible exact (q_fe btt12_0).2 | with_reducible exact (q_fe btt12_0).1 | (have t1 : 0 ≤ t12_0.toInt ∧ t12_0.toInt ≤ 220 := btt12_0; omega))), (show 0 ≤ t12_1.toInt from (by first | with_reducible exact (q_fe btt12_1).2 | with_reducible exact (q_fe btt12_1).1 | (have t1 : 0 ≤ t12_1.toInt ∧ t12_1.toInt ≤ 1 := btt12_1; omega))), (show t12_1.toInt ≤ 1 from (by first | with_reducible exact (q_fe btt12_1).2 | with_reducible exact (q_fe btt12_1).1 | (have t1 : 0 ≤ t12_1.toInt ∧ t12_1.toInt ≤ 1 := btt12_1; omega))), (show 0 ≤ t14_0.toInt from (by first | with_reducible exact (q_fe btt14_0).2 | with_reducible exact (q_fe btt14_0).1 | (have t1 : 0 ≤ t14_0.toInt ∧ t14_0.toInt ≤ 220 := btt14_0; omega))), (show t14_0.toInt ≤ 220 from (by first | with_reducible exact (q_fe btt14_0).2 | with_reducible exact (q_fe btt14_0).1 | (have t1 : 0 ≤ t14_0.toInt ∧ t14_0.toInt ≤ 220 := btt14_0; omega))), (show 0 ≤ t14_1.toInt from (by first | with_reducible exact (q_fe btt14_1).2 | with_reducible exact (q_fe btt14_1).1 | (have t1 : 0 ≤ t14_1.toInt ∧ t14_1.toInt ≤ 1 := btt14_1; omega))), (show t14_1.toInt ≤ 1 from (by first | with_reducible exact (q_fe btt14_1).2 | with_reducible exact (q_fe btt14_1).1 | (have t1 : 0 ≤ t14_1.toInt ∧ t14_1.toInt ≤ 1 := btt14_1; omega))), (show 0 ≤ y347.toInt from (by first | with_reducible exact q_fe b351 | (have t1 : 0 ≤ y347.toInt := b351; omega))), (show y347.toInt ≤ 68 from (by first | with_reducible exact q_fe b352 | (have t1 : y347.toInt ≤ 68 := b352; omega))), (show x2.toInt ≤ y261.toInt + 9 from (by have t1 : x2.toInt ≤ 9 := ob187; have t2 : 0 ≤ y261.toInt := b279; omega)), (show y261.toInt ≤ x2.toInt from (by have t1 : 0 ≤ x2.toInt := ob186; have t2 : y261.toInt ≤ 0 := b280; omega)), (show x3.toInt ≤ y261.toInt + 9 from (by have t1 : x3.toInt ≤ 9 := ob180; have t2 : 0 ≤ y261.toInt := b279; omega)), (show y261.toInt ≤ x3.toInt from (by have t1 : 0 ≤ x3.toInt := ob179; have t2 : y261.toInt ≤ 0 := b280; omega)), (show x4.toInt ≤ y261.toInt + 9 from (by have t1 : x4.toInt ≤ 9 := ob129; have t2 : 0 ≤ y261.toInt := b279; omega)), (show y261.toInt ≤ x4.toInt from (by have t1 : 0 ≤ x4.toInt := ob128; have t2 : y261.toInt ≤ 0 := b280; omega)), (show t10_1.toInt ≤ t18_0.toInt + 1 from (by have t1 : 0 ≤ t10_1.toInt ∧ t10_1.toInt ≤ 1 := btt10_1; have t2 : 0 ≤ t18_0.toInt ∧ t18_0.toInt ≤ 68 := btt18_0; omega)), (show t10_1.toInt ≤ t18_1.toInt + 1 from (by have t1 : 0 ≤ t10_1.toInt ∧ t10_1.toInt ≤ 1 := btt10_1; have t2 : 0 ≤ t18_1.toInt ∧ t18_1.toInt ≤ 1 := btt18_1; omega)), (show x5.toInt ≤ y347.toInt + 9 from (by first | with_reducible exact q_fe b353 | (have t1 : x5.toInt ≤ y347.toInt + 9 := b353; omega))), (show y347.toInt ≤ x5.toInt + 68 from (by first | with_reducible exact q_fe b354 | (have t1 : y347.toInt ≤ x5.toInt + 68 := b354; omega))), (show x5.toInt ≤ y348.toInt + 9 from (by first | with_reducible exact q_fe b356 | (have t1 : x5.toInt ≤ y348.toInt + 9 := b356; omega))), (show y348.toInt ≤ x5.toInt + 1 from (by first | with_reducible exact q_fe b357 | (have t1 : y348.toInt ≤ x5.toInt + 1 := b357; omega))), (show y255.toInt ≤ y265.toInt from (by first | with_reducible exact q_fe b283 | (have t1 : y255.toInt ≤ y265.toInt := b283; omega))), (show y347.toInt ≤ y255.toInt from (by first | with_reducible exact q_fe b355 | (have t1 : y347.toInt ≤ y255.toInt := b355; omega))), (show y348.toInt ≤ y256.toInt from (by first | with_reducible exact q_fe b359 | (have t1 : y348.toInt ≤ y256.toInt := b359; omega))), (show y256.toInt ≤ y348.toInt from (by first | with_reducible exact q_fe b358 | (have t1 : y256.toInt ≤ y348.toInt := b358; omega))), (show y348.toInt ≤ y266.toInt from (by have t1 : y256.toInt ≤ y266.toInt := b285; have t2 : y348.toInt ≤ y256.toInt := b359; omega)), (show y266.toInt ≤ y348.toInt from (by have t1 : y266.toInt ≤ y256.toInt := b284; have t2 : y256.toInt ≤ y348.toInt := b358; omega)), (show ((0 : Int32), y255, y256, f257, y260, y261, f262, y265, y266, f267, y270, y271, f272, t8_0, t8_1, t9_0, t10_0, t10_1, t11_0, t12_0, t12_1, t13_0, t14_0, t14_1, t15_0, y347, y348, f349) = (F_NH_powerModulo_et x2 x3 x4 x5 t0_0 t0_1 t1_0 t2_0 t2_1 t3_0 t4_0 t4_1 t5_0 t6_0 t6_1 t7_0 t8_0 t8_1 t9_0 t10_0 t10_1 t11_0 t12_0 t12_1 t13_0 t14_0 t14_1 t15_0 t16_0 t16_1 t17_0 t18_0 t18_1 t19_0) from Eq.trans (by rw [e365, e364, e363, F_NH_powerModulo_et_c142.eq_1, if_pos c337]) hR341)⟩) d_1_10_145)
          ·
            refine lv_aload_n hx hb d_1_10_69 rfl (lv_at hl 0 rfl) ?_
            refine q_get (ci := 0) (j := 6) (v := .ref (q 9)) C0 V i_NH rfl rfl hO126 (by decide) w_430 rfl d_1_10_70 ?_
            refine lv_aload_n hx hb d_1_10_73 rfl (lv_at hl 0 rfl) ?_
            refine q_get (ci := 0) (j := 2) (v := .ref (q 5)) C0 V i_NH rfl rfl hO126 (by decide) w_426 rfl d_1_10_74 ?_
            refine lv_iload_n hx hb d_1_10_77 rfl (lv_at hl 1 rfl) ?_
            have hX367 := n_fx hI (n_s5 g q)
            have ob368 : q_F (0 ≤ x2.toInt) := (by have h := hS165; rw [S_NH_powerModulo_et_J54.eq_1] at h; rw [if_pos c175] at h; replace h := q_s2 h; replace h := q_s2 h; rw [if_neg c183] at h; exact h.2.1)
            have ob369 : q_F (x2.toInt ≤ 9) := (by have h := hS165; rw [S_NH_powerModulo_et_J54.eq_1] at h; rw [if_pos c175] at h; replace h := q_s2 h; replace h := q_s2 h; rw [if_neg c183] at h; replace h := q_s2 h; exact h.2.1)
            have hj370 : x2.toNatClampNeg < 10 := by have z := q_clI (i := x2) (x := x2.toInt) rfl (by first | with_reducible exact q_fe ob368 | (have t1 : 0 ≤ x2.toInt := ob368; omega)); have t1 : 0 ≤ x2.toInt := ob368; have t2 : x2.toInt ≤ 9 := ob369; omega
            have hq371 := gk2x2 hj370
            refine q_aald (t := 4) (q := q k2) C0 V hX367 rfl (q_ix (x := x2.toInt) rfl (by first | with_reducible exact q_fe ob368 | (have t1 : 0 ≤ x2.toInt := ob368; omega)) (by have t1 : 0 ≤ x2.toInt := ob368; have t2 : x2.toInt ≤ 9 := ob369; omega)) (by rw [hq371]; exact n_fwv hj370) d_1_10_78 ?_
            refine lv_aload_n hx hb d_1_10_79 rfl (lv_at hl 0 rfl) ?_
            refine q_get (ci := 0) (j := 2) (v := .ref (q 5)) C0 V i_NH rfl rfl hO126 (by decide) w_426 rfl d_1_10_80 ?_
            refine lv_iload_n hx hb d_1_10_83 rfl (lv_at hl 3 rfl) ?_
            have hX372 := n_fx hI (n_s5 g q)
            have hj373 : x4.toNatClampNeg < 10 := by have z := q_clI (i := x4) (x := x4.toInt) rfl (by first | with_reducible exact q_fe ob128 | (have t1 : 0 ≤ x4.toInt := ob128; omega)); have t1 : 0 ≤ x4.toInt := ob128; have t2 : x4.toInt ≤ 9 := ob129; omega
            have hq374 := gk4x4 hj373
            refine q_aald (t := 4) (q := q k4) C0 V hX372 rfl (q_ix (x := x4.toInt) rfl (by first | with_reducible exact q_fe ob128 | (have t1 : 0 ≤ x4.toInt := ob128; omega)) (by have t1 : 0 ≤ x4.toInt := ob128; have t2 : x4.toInt ≤ 9 := ob129; omega)) (by rw [hq374]; exact n_fwv hj373) d_1_10_84 ?_
            have ob375 : True ∧ S_Mil_inverse (68 : Int32) (68 : Int32) t0_0 t0_1 t1_0 t2_0 t2_1 t3_0 t6_0 t6_1 t7_0 t8_0 t8_1 t9_0 t10_0 t10_1 t11_0 t12_0 t12_1 t13_0 t14_0 t14_1 t15_0 t16_0 t16_1 t17_0 t18_0 t18_1 t19_0 := (by have h := hS165; rw [S_NH_powerModulo_et_J54.eq_1] at h; rw [if_pos c175] at h; replace h := q_s2 h; replace h := q_s2 h; rw [if_neg c183] at h; replace h := q_s2 h; replace h := q_s2 h; with_reducible exact h.2.1)
            have hO376 := n_o9 hI
            refine q_goi V (q_runV (As := [.ref (q k2), .ref (q k4)]) (rest := []) (d := 6) (mc := 0) (ms := 0) (ci := 4) C0 V rfl LV_NH_236 (X_Mil_inverse l D g q ws k2 68 hBk2 (Or.inr yk2) k4 68 hBk4 (Or.inr yk4)  (by have z0 := yk2; omega) (by have z0 := yk2; omega) (by have z0 := yk2; omega) (by have z0 := yk2; omega) (by have z0 := yk2; omega) (by have z0 := yk2; omega) (by have z0 := yk2; omega) (by have z0 := yk2; omega) (by have z0 := yk2; omega) (by have z0 := yk2; omega) (by have z0 := yk2; omega) (by have z0 := yk2; omega) (by have z0 := yk2; omega) (by have z0 := yk2; omega) (by have z0 := yk2; omega) (by have z0 := yk2; omega) (by have z0 := yk2; omega) (by have z0 := yk2; omega) (by have z0 := yk2; omega) (by have z0 := yk2; omega) (by have z0 := yk2; omega) (by have z0 := yk4; omega) (by have z0 := yk4; omega) (by have z0 := yk4; omega) (by have z0 := yk4; omega) (by have z0 := yk4; omega) (by have z0 := yk4; omega) (by have z0 := yk4; omega) (by have z0 := yk4; omega) (by have z0 := yk4; omega) (by have z0 := yk4; omega) (by have z0 := yk4; omega) (by have z0 := yk4; omega) (by have z0 := yk4; omega) (by have z0 := yk4; omega) (by have z0 := yk4; omega) (by have z0 := yk4; omega) (by have z0 := yk4; omega) (by have z0 := yk4; omega) (by have z0 := yk4; omega) (by have z0 := yk4; omega) (by have z0 := yk4; omega) (by have z := ne_k2_k4; omega) hI t0_0 t0_1 hT0 t1_0 hT1 t2_0 t2_1 hT2 t3_0 hT3 t6_0 t6_1 hT6 t7_0 hT7 t8_0 t8_1 hT8 t9_0 hT9 t10_0 t10_1 hT10 t11_0 hT11 t12_0 t12_1 hT12 t13_0 hT13 t14_0 t14_1 hT14 t15_0 hT15 t16_0 t16_1 hT16 t17_0 hT17 t18_0 t18_1 hT18 t19_0 hT19 ob375 _) rfl rfl hO376 rfl hl.1 rfl (Nat.le_of_ble_eq_true rfl) ⟨by decide, by decide⟩ ⟨Nat.le_of_ble_eq_true rfl, Nat.le_of_ble_eq_true rfl⟩ d_1_10_85) (fun a379 u377 H locs hp378 V => ?_)
            obtain ⟨hI, hZ9⟩ := hp378
            obtain ⟨hu461, hZ9⟩ := hZ9
            obtain ⟨y381, hZ9⟩ := hZ9
            obtain ⟨y382, hZ9⟩ := hZ9
            obtain ⟨f383, hZ9⟩ := hZ9
            obtain ⟨y386, hZ9⟩ := hZ9
            obtain ⟨y387, hZ9⟩ := hZ9
            obtain ⟨f388, hZ9⟩ := hZ9
            obtain ⟨y391, hZ9⟩ := hZ9
            obtain ⟨y392, hZ9⟩ := hZ9
            obtain ⟨f393, hZ9⟩ := hZ9
            obtain ⟨y396, hZ9⟩ := hZ9
            obtain ⟨y397, hZ9⟩ := hZ9
            obtain ⟨f398, hZ9⟩ := hZ9
            obtain ⟨y401, hZ9⟩ := hZ9
            obtain ⟨y402, hZ9⟩ := hZ9
            obtain ⟨f403, hZ9⟩ := hZ9
            obtain ⟨y406, hZ9⟩ := hZ9
            obtain ⟨y407, hZ9⟩ := hZ9
            obtain ⟨f408, hZ9⟩ := hZ9
            obtain ⟨y411, hZ9⟩ := hZ9
            obtain ⟨y412, hZ9⟩ := hZ9
            obtain ⟨f413, hZ9⟩ := hZ9
            obtain ⟨y416, hZ9⟩ := hZ9
            obtain ⟨y417, hZ9⟩ := hZ9
            obtain ⟨f418, hZ9⟩ := hZ9
            obtain ⟨hO380, hZ9⟩ := hZ9
            obtain ⟨hA384, hZ9⟩ := hZ9
            obtain ⟨hO385, hZ9⟩ := hZ9
            obtain ⟨hA389, hZ9⟩ := hZ9
            obtain ⟨hO390, hZ9⟩ := hZ9
            obtain ⟨hA394, hZ9⟩ := hZ9
            obtain ⟨hO395, hZ9⟩ := hZ9
            obtain ⟨hA399, hZ9⟩ := hZ9
            obtain ⟨hO400, hZ9⟩ := hZ9
            obtain ⟨hA404, hZ9⟩ := hZ9
            obtain ⟨hO405, hZ9⟩ := hZ9
            obtain ⟨hA409, hZ9⟩ := hZ9
            obtain ⟨hO410, hZ9⟩ := hZ9
            obtain ⟨hA414, hZ9⟩ := hZ9
            obtain ⟨hO415, hZ9⟩ := hZ9
            obtain ⟨hA419, hZ9⟩ := hZ9
            obtain ⟨b420, hZ9⟩ := hZ9
            obtain ⟨b421, hZ9⟩ := hZ9
            replace hZ9 := hZ9.2.2.2.2.2.2.2.2.2.2.2.2
            obtain ⟨b434, hZ9⟩ := hZ9
            obtain ⟨b435, hZ9⟩ := hZ9
            obtain ⟨b436, hZ9⟩ := hZ9
            obtain ⟨b437, hZ9⟩ := hZ9
            obtain ⟨b438, hZ9⟩ := hZ9
            obtain ⟨b439, hZ9⟩ := hZ9
            obtain ⟨b440, hZ9⟩ := hZ9
            obtain ⟨b441, hZ9⟩ := hZ9
            obtain ⟨b442, hZ9⟩ := hZ9
            obtain ⟨b443, hZ9⟩ := hZ9
            obtain ⟨b444, hZ9⟩ := hZ9
            obtain ⟨b445, hZ9⟩ := hZ9
            obtain ⟨b446, hZ9⟩ := hZ9
            obtain ⟨b447, hZ9⟩ := hZ9
            replace hZ9 := hZ9.2.2.2
            obtain ⟨b451, hZ9⟩ := hZ9
            replace hZ9 := hZ9.2
            obtain ⟨b453, hZ9⟩ := hZ9
            obtain ⟨b454, hZ9⟩ := hZ9
            replace hZ9 := hZ9.2
            obtain ⟨b456, hZ9⟩ := hZ9
            replace hZ9 := hZ9.2.2
            obtain ⟨b459, hE460⟩ := hZ9
            replace hO380 : u377[10]? = (some (q 10, .inr (2, [.ref (q 11), .int y381, .int y382])) : Option (Nat × va_E)) := hO380
            replace hA384 : u377[11]? = (some (q 11, .inl (g 0, (220 : Int32).toNatClampNeg, .inl f383)) : Option (Nat × va_E)) := hA384
            replace hO385 : u377[12]? = (some (q 12, .inr (2, [.ref (q 13), .int y386, .int y387])) : Option (Nat × va_E)) := hO385
            replace hA389 : u377[13]? = (some (q 13, .inl (g 0, (220 : Int32).toNatClampNeg, .inl f388)) : Option (Nat × va_E)) := hA389
            replace hO390 : u377[18]? = (some (q 18, .inr (2, [.ref (q 19), .int y391, .int y392])) : Option (Nat × va_E)) := hO390
            replace hA394 : u377[19]? = (some (q 19, .inl (g 0, (220 : Int32).toNatClampNeg, .inl f393)) : Option (Nat × va_E)) := hA394
            replace hO395 : u377[22]? = (some (q 22, .inr (2, [.ref (q 23), .int y396, .int y397])) : Option (Nat × va_E)) := hO395
            replace hA399 : u377[23]? = (some (q 23, .inl (g 0, (220 : Int32).toNatClampNeg, .inl f398)) : Option (Nat × va_E)) := hA399
            replace hO400 : u377[24]? = (some (q 24, .inr (2, [.ref (q 25), .int y401, .int y402])) : Option (Nat × va_E)) := hO400
            replace hA404 : u377[25]? = (some (q 25, .inl (g 0, (220 : Int32).toNatClampNeg, .inl f403)) : Option (Nat × va_E)) := hA404
            replace hO405 : u377[26]? = (some (q 26, .inr (2, [.ref (q 27), .int y406, .int y407])) : Option (Nat × va_E)) := hO405
            replace hA409 : u377[27]? = (some (q 27, .inl (g 0, (220 : Int32).toNatClampNeg, .inl f408)) : Option (Nat × va_E)) := hA409
            replace hO410 : u377[28]? = (some (q 28, .inr (2, [.ref (q 29), .int y411, .int y412])) : Option (Nat × va_E)) := hO410
            replace hA414 : u377[29]? = (some (q 29, .inl (g 0, (220 : Int32).toNatClampNeg, .inl f413)) : Option (Nat × va_E)) := hA414
            replace hO415 : u377[k4]? = (some (q k4, .inr (2, [.ref (q (k4 + 1)), .int y416, .int y417])) : Option (Nat × va_E)) := hO415
            replace hA419 : u377[k4 + 1]? = (some (q (k4 + 1), .inl (g 0, (68 : Int32).toNatClampNeg, .inl f418)) : Option (Nat × va_E)) := hA419
            obtain ⟨p462, e463⟩ : ∃ z, z = (F_Mil_inverse (68 : Int32) (68 : Int32) t0_0 t0_1 t1_0 t2_0 t2_1 t3_0 t6_0 t6_1 t7_0 t8_0 t8_1 t9_0 t10_0 t10_1 t11_0 t12_0 t12_1 t13_0 t14_0 t14_1 t15_0 t16_0 t16_1 t17_0 t18_0 t18_1 t19_0) := ⟨_, rfl⟩
            have e464 : a379 = p462.1 := congrArg (fun z => z.1) (hE460.trans e463.symm)
            have e465 : y381 = p462.2.1 := congrArg (fun z => z.2.1) (hE460.trans e463.symm)
            have e466 : y382 = p462.2.2.1 := congrArg (fun z => z.2.2.1) (hE460.trans e463.symm)
            have e467 : f383 = p462.2.2.2.1 := congrArg (fun z => z.2.2.2.1) (hE460.trans e463.symm)
            have e468 : y386 = p462.2.2.2.2.1 := congrArg (fun z => z.2.2.2.2.1) (hE460.trans e463.symm)
            have e469 : y387 = p462.2.2.2.2.2.1 := congrArg (fun z => z.2.2.2.2.2.1) (hE460.trans e463.symm)
            have e470 : f388 = p462.2.2.2.2.2.2.1 := congrArg (fun z => z.2.2.2.2.2.2.1) (hE460.trans e463.symm)
            have e471 : y391 = p462.2.2.2.2.2.2.2.1 := congrArg (fun z => z.2.2.2.2.2.2.2.1) (hE460.trans e463.symm)
            have e472 : y392 = p462.2.2.2.2.2.2.2.2.1 := congrArg (fun z => z.2.2.2.2.2.2.2.2.1) (hE460.trans e463.symm)
            have e473 : f393 = p462.2.2.2.2.2.2.2.2.2.1 := congrArg (fun z => z.2.2.2.2.2.2.2.2.2.1) (hE460.trans e463.symm)
            have e474 : y396 = p462.2.2.2.2.2.2.2.2.2.2.1 := congrArg (fun z => z.2.2.2.2.2.2.2.2.2.2.1) (hE460.trans e463.symm)
            have e475 : y397 = p462.2.2.2.2.2.2.2.2.2.2.2.1 := congrArg (fun z => z.2.2.2.2.2.2.2.2.2.2.2.1) (hE460.trans e463.symm)
            have e476 : f398 = p462.2.2.2.2.2.2.2.2.2.2.2.2.1 := congrArg (fun z => z.2.2.2.2.2.2.2.2.2.2.2.2.1) (hE460.trans e463.symm)
            have e477 : y401 = p462.2.2.2.2.2.2.2.2.2.2.2.2.2.1 := congrArg (fun z => z.2.2.2.2.2.2.2.2.2.2.2.2.2.1) (hE460.trans e463.symm)
            have e478 : y402 = p462.2.2.2.2.2.2.2.2.2.2.2.2.2.2.1 := congrArg (fun z => z.2.2.2.2.2.2.2.2.2.2.2.2.2.2.1) (hE460.trans e463.symm)
            have e479 : f403 = p462.2.2.2.2.2.2.2.2.2.2.2.2.2.2.2.1 := congrArg (fun z => z.2.2.2.2.2.2.2.2.2.2.2.2.2.2.2.1) (hE460.trans e463.symm)
            have e480 : y406 = p462.2.2.2.2.2.2.2.2.2.2.2.2.2.2.2.2.1 := congrArg (fun z => z.2.2.2.2.2.2.2.2.2.2.2.2.2.2.2.2.1) (hE460.trans e463.symm)
            have e481 : y407 = p462.2.2.2.2.2.2.2.2.2.2.2.2.2.2.2.2.2.1 := congrArg (fun z => z.2.2.2.2.2.2.2.2.2.2.2.2.2.2.2.2.2.1) (hE460.trans e463.symm)
            have e482 : f408 = p462.2.2.2.2.2.2.2.2.2.2.2.2.2.2.2.2.2.2.1 := congrArg (fun z => z.2.2.2.2.2.2.2.2.2.2.2.2.2.2.2.2.2.2.1) (hE460.trans e463.symm)
            have e483 : y411 = p462.2.2.2.2.2.2.2.2.2.2.2.2.2.2.2.2.2.2.2.1 := congrArg (fun z => z.2.2.2.2.2.2.2.2.2.2.2.2.2.2.2.2.2.2.2.1) (hE460.trans e463.symm)
            have e484 : y412 = p462.2.2.2.2.2.2.2.2.2.2.2.2.2.2.2.2.2.2.2.2.1 := congrArg (fun z => z.2.2.2.2.2.2.2.2.2.2.2.2.2.2.2.2.2.2.2.2.1) (hE460.trans e463.symm)
            have e485 : f413 = p462.2.2.2.2.2.2.2.2.2.2.2.2.2.2.2.2.2.2.2.2.2.1 := congrArg (fun z => z.2.2.2.2.2.2.2.2.2.2.2.2.2.2.2.2.2.2.2.2.2.1) (hE460.trans e463.symm)
            have e486 : y416 = p462.2.2.2.2.2.2.2.2.2.2.2.2.2.2.2.2.2.2.2.2.2.2.1 := congrArg (fun z => z.2.2.2.2.2.2.2.2.2.2.2.2.2.2.2.2.2.2.2.2.2.2.1) (hE460.trans e463.symm)
            have e487 : y417 = p462.2.2.2.2.2.2.2.2.2.2.2.2.2.2.2.2.2.2.2.2.2.2.2.1 := congrArg (fun z => z.2.2.2.2.2.2.2.2.2.2.2.2.2.2.2.2.2.2.2.2.2.2.2.1) (hE460.trans e463.symm)
            have e488 : f418 = p462.2.2.2.2.2.2.2.2.2.2.2.2.2.2.2.2.2.2.2.2.2.2.2.2 := congrArg (fun z => z.2.2.2.2.2.2.2.2.2.2.2.2.2.2.2.2.2.2.2.2.2.2.2.2) (hE460.trans e463.symm)
            replace b420 : q_F (0 ≤ a379.toInt) := b420
            replace b421 : q_F (a379.toInt ≤ 1) := b421
            replace b434 : q_F (0 ≤ y396.toInt) := b434
            replace b435 : q_F (y396.toInt ≤ 220) := b435
            replace b436 : q_F (0 ≤ y397.toInt) := b436
            replace b437 : q_F (0 ≤ y401.toInt) := b437
            replace b438 : q_F (y401.toInt ≤ 220) := b438
            replace b439 : q_F (0 ≤ y402.toInt) := b439
            replace b440 : q_F (0 ≤ y406.toInt) := b440
            replace b441 : q_F (y406.toInt ≤ 220) := b441
            replace b442 : q_F (0 ≤ y407.toInt) := b442
            replace b443 : q_F (y407.toInt ≤ 1) := b443
            replace b444 : q_F (0 ≤ y411.toInt) := b444
            replace b445 : q_F (y411.toInt ≤ 220) := b445
            replace b446 : q_F (0 ≤ y412.toInt) := b446
            replace b447 : q_F (y412.toInt ≤ 1) := b447
            replace b451 : q_F (y417.toInt ≤ 1) := b451
            replace b453 : q_F (y397.toInt ≤ t18_1.toInt) := b453
            replace b454 : q_F (y402.toInt ≤ t18_0.toInt + 1) := b454
            replace b456 : q_F (y417.toInt ≤ t18_1.toInt) := b456
            replace b459 : q_F (y402.toInt ≤ y417.toInt + 1) := b459
            replace hT4 := (hu461 _ (by have z0 := yk4; simp only [List.mem_cons, List.not_mem_nil, or_false, not_or]; omega)).trans hT4
            replace hT5 := (hu461 _ (by have z0 := yk4; simp only [List.mem_cons, List.not_mem_nil, or_false, not_or]; omega)).trans hT5
            replace hO126 := (hu461 _ (by have z0 := yk4; simp only [List.mem_cons, List.not_mem_nil, or_false, not_or]; omega)).trans hO126
            replace hO376 := (hu461 _ (by have z0 := yk4; simp only [List.mem_cons, List.not_mem_nil, or_false, not_or]; omega)).trans hO376
            replace hF := q_uc hF hu461 (by simp)
            have hR489 := (show F_NH_powerModulo_et_c85 x2 x3 x4 x5 t0_0 t0_1 t1_0 t2_0 t2_1 t3_0 t4_0 t4_1 t5_0 t6_0 t6_1 t7_0 t8_0 t8_1 t9_0 t10_0 t10_1 t11_0 t12_0 t12_1 t13_0 t14_0 t14_1 t15_0 t16_0 t16_1 t17_0 t18_0 t18_1 t19_0 lx88 lx140 p462 = (F_NH_powerModulo_et x2 x3 x4 x5 t0_0 t0_1 t1_0 t2_0 t2_1 t3_0 t4_0 t4_1 t5_0 t6_0 t6_1 t7_0 t8_0 t8_1 t9_0 t10_0 t10_1 t11_0 t12_0 t12_1 t13_0 t14_0 t14_1 t15_0 t16_0 t16_1 t17_0 t18_0 t18_1 t19_0) from Eq.trans (by rw [e463, F_NH_powerModulo_et_J54.eq_1, if_pos c175, if_neg c183]) hR164)
            have hS490 := (show True ∧ S_NH_powerModulo_et_c85 x2 x3 x4 x5 t0_0 t0_1 t1_0 t2_0 t2_1 t3_0 t4_0 t4_1 t5_0 t6_0 t6_1 t7_0 t8_0 t8_1 t9_0 t10_0 t10_1 t11_0 t12_0 t12_1 t13_0 t14_0 t14_1 t15_0 t16_0 t16_1 t17_0 t18_0 t18_1 t19_0 lx88 lx140 p462 from (by rw [e463]; have h := hS165; rw [S_NH_powerModulo_et_J54.eq_1] at h; rw [if_pos c175] at h; replace h := q_s2 h; replace h := q_s2 h; rw [if_neg c183] at h; replace h := q_s2 h; replace h := q_s2 h; replace h := q_s2 h; with_reducible exact h))
            refine q_goxv V (q_runSX (As := [.int a379]) (rest := []) (d := 7) (mc := 1) (ms := 6) C0 V rfl LS_NH_138 (X_NH_canHave l D g q u377  a379 hlt hI  ⟨(by first | with_reducible exact q_fe b420 | (have t1 : 0 ≤ a379.toInt := b420; omega)), (by first | with_reducible exact q_fe b421 | (have t1 : a379.toInt ≤ 1 := b421; omega))⟩ _) rfl hl.1 rfl (Nat.le_of_ble_eq_true rfl) ⟨by decide, by decide⟩ ⟨Nat.le_of_ble_eq_true rfl, Nat.le_of_ble_eq_true rfl⟩ d_1_10_88) (fun qx Ex ce u494 H locs hp495 V hce hcv hcl => ?_) (fun u494 H locs hp495 V => ?_)
            ·
              obtain ⟨cx497, he498, hc499, rfl, hE496⟩ := hp495
              have c500 : ¬ (F_NH_canHave a379) = (0 : Int32) := fun z => hc499 (((hE496) : cx497 = _).trans z)
              exact q_outT hno C0 V (⟨(F_NH_canHave a379), (he498.trans (congrArg qE ((hE496) : cx497 = _))), c500, hI, hF, y381, y382, f383, y386, y387, f388, t4_0, t4_1, t5_0, y391, y392, f393, y396, y397, f398, y401, y402, f403, y406, y407, f408, y411, y412, f413, y416, y417, f418, hO380, hA384, hO385, hA389, hT4, hT5, hO390, hA394, hO395, hA399, hO400, hA404, hO405, hA409, hO410, hA414, hO415, hA419, (show ((F_NH_canHave a379), y381, y382, f383, y386, y387, f388, t4_0, t4_1, t5_0, y391, y392, f393, y396, y397, f398, y401, y402, f403, y406, y407, f408, y411, y412, f413, y416, y417, f418) = (F_NH_powerModulo_et x2 x3 x4 x5 t0_0 t0_1 t1_0 t2_0 t2_1 t3_0 t4_0 t4_1 t5_0 t6_0 t6_1 t7_0 t8_0 t8_1 t9_0 t10_0 t10_1 t11_0 t12_0 t12_1 t13_0 t14_0 t14_1 t15_0 t16_0 t16_1 t17_0 t18_0 t18_1 t19_0) from Eq.trans (by have c500x := c500; rw [e464] at c500x; rw [e488, e487, e486, e485, e484, e483, e482, e481, e480, e479, e478, e477, e476, e475, e474, e473, e472, e471, e470, e469, e468, e467, e466, e465, e464, F_NH_powerModulo_et_c85.eq_1, if_neg c500x]) hR489)⟩) hce hcv hcl (Nat.le_of_ble_eq_true rfl) (Nat.le_of_ble_eq_true rfl)
            ·
              obtain ⟨rfl, hE501⟩ := hp495
              have c500 : (F_NH_canHave a379) = (0 : Int32) := ((hE501) : (0 : Int32) = _).symm
              refine lv_goto (tgt := 120) hx hb d_1_10_91 (by decide) ?_
              refine lv_aload_n hx hb d_1_10_120 rfl (lv_at hl 0 rfl) ?_
              refine q_get (ci := 0) (j := 6) (v := .ref (q 9)) C0 V i_NH rfl rfl hO126 (by decide) w_430 rfl d_1_10_121 ?_
              refine lv_aload_n hx hb d_1_10_124 rfl (lv_at hl 0 rfl) ?_
              refine q_get (ci := 0) (j := 2) (v := .ref (q 5)) C0 V i_NH rfl rfl hO126 (by decide) w_426 rfl d_1_10_125 ?_
              refine lv_iload_n hx hb d_1_10_128 rfl (lv_at hl 2 rfl) ?_
              have hX503 := n_fx hI (n_s5 g q)
              have hj504 : x3.toNatClampNeg < 10 := by have z := q_clI (i := x3) (x := x3.toInt) rfl (by first | with_reducible exact q_fe ob179 | (have t1 : 0 ≤ x3.toInt := ob179; omega)); have t1 : 0 ≤ x3.toInt := ob179; have t2 : x3.toInt ≤ 9 := ob180; omega
              have hq505 := gk4x3 hj504
              refine q_aald (t := 4) (q := q k4) C0 V hX503 rfl (q_ix (x := x3.toInt) rfl (by first | with_reducible exact q_fe ob179 | (have t1 : 0 ≤ x3.toInt := ob179; omega)) (by have t1 : 0 ≤ x3.toInt := ob179; have t2 : x3.toInt ≤ 9 := ob180; omega)) (by rw [hq505]; exact n_fwv hj504) d_1_10_129 ?_
              refine lv_aload_n hx hb d_1_10_130 rfl (lv_at hl 0 rfl) ?_
              refine q_get (ci := 0) (j := 2) (v := .ref (q 5)) C0 V i_NH rfl rfl hO126 (by decide) w_426 rfl d_1_10_131 ?_
              refine lv_iload_n hx hb d_1_10_134 rfl (lv_at hl 3 rfl) ?_
              have hX506 := n_fx hI (n_s5 g q)
              have hj507 : x4.toNatClampNeg < 10 := by have z := q_clI (i := x4) (x := x4.toInt) rfl (by first | with_reducible exact q_fe ob128 | (have t1 : 0 ≤ x4.toInt := ob128; omega)); have t1 : 0 ≤ x4.toInt := ob128; have t2 : x4.toInt ≤ 9 := ob129; omega
              have hq508 := gk4x4 hj507
              refine q_aald (t := 4) (q := q k4) C0 V hX506 rfl (q_ix (x := x4.toInt) rfl (by first | with_reducible exact q_fe ob128 | (have t1 : 0 ≤ x4.toInt := ob128; omega)) (by have t1 : 0 ≤ x4.toInt := ob128; have t2 : x4.toInt ≤ 9 := ob129; omega)) (by rw [hq508]; exact n_fwv hj507) d_1_10_135 ?_
              have ob509 : True ∧ S_Mil_powerBelow_a (68 : Int32) y381 y382 f383 y386 y387 f388 t4_0 t4_1 t5_0 y391 y392 f393 y416 y417 f418 := (by rw [e488, e487, e486, e473, e472, e471, e470, e469, e468, e467, e466, e465]; have h := hS490; rw [S_NH_powerModulo_et_c85.eq_1] at h; have c500x := c500; rw [e464] at c500x; rw [if_pos c500x] at h; with_reducible exact h.2.1)
              refine q_gov V (q_runV (As := [.ref (q k4), .ref (q k4)]) (rest := []) (d := 5) (mc := 0) (ms := 0) (ci := 4) C0 V rfl LV_NH_266 (X_Mil_powerBelow_a l D g q u377 k4 68 hBk4 (Or.inr yk4)  (by have z0 := yk4; omega) (by have z0 := yk4; omega) (by have z0 := yk4; omega) (by have z0 := yk4; omega) (by have z0 := yk4; omega) (by have z0 := yk4; omega) (by have z0 := yk4; omega) (by have z0 := yk4; omega) (by have z0 := yk4; omega) (by have z0 := yk4; omega) (by have z0 := yk4; omega) (by have z0 := yk4; omega) hI y381 y382 hO380 f383 hA384 y386 y387 hO385 f388 hA389 t4_0 t4_1 hT4 t5_0 hT5 y391 y392 hO390 f393 hA394 y416 y417 hO415 f418 hA419 ob509 _) rfl rfl hO376 rfl hl.1 rfl (Nat.le_of_ble_eq_true rfl) ⟨by decide, by decide⟩ ⟨Nat.le_of_ble_eq_true rfl, Nat.le_of_ble_eq_true rfl⟩ d_1_10_136) (fun u510 H locs hp511 V => ?_)
              obtain ⟨hI, hZ9⟩ := hp511
              obtain ⟨hu557, hZ9⟩ := hZ9
              obtain ⟨y513, hZ9⟩ := hZ9
              obtain ⟨y514, hZ9⟩ := hZ9
              obtain ⟨f515, hZ9⟩ := hZ9
              obtain ⟨y518, hZ9⟩ := hZ9
              obtain ⟨y519, hZ9⟩ := hZ9
              obtain ⟨f520, hZ9⟩ := hZ9
              obtain ⟨y523, hZ9⟩ := hZ9
              obtain ⟨y524, hZ9⟩ := hZ9
              obtain ⟨f525, hZ9⟩ := hZ9
              obtain ⟨y528, hZ9⟩ := hZ9
              obtain ⟨y529, hZ9⟩ := hZ9
              obtain ⟨f530, hZ9⟩ := hZ9
              obtain ⟨y533, hZ9⟩ := hZ9
              obtain ⟨y534, hZ9⟩ := hZ9
              obtain ⟨f535, hZ9⟩ := hZ9
              obtain ⟨hO512, hZ9⟩ := hZ9
              obtain ⟨hA516, hZ9⟩ := hZ9
              obtain ⟨hO517, hZ9⟩ := hZ9
              obtain ⟨hA521, hZ9⟩ := hZ9
              obtain ⟨hO522, hZ9⟩ := hZ9
              obtain ⟨hA526, hZ9⟩ := hZ9
              obtain ⟨hO527, hZ9⟩ := hZ9
              obtain ⟨hA531, hZ9⟩ := hZ9
              obtain ⟨hO532, hZ9⟩ := hZ9
              obtain ⟨hA536, hZ9⟩ := hZ9
              obtain ⟨b537, hZ9⟩ := hZ9
              obtain ⟨b538, hZ9⟩ := hZ9
              replace hZ9 := hZ9.2
              obtain ⟨b540, hZ9⟩ := hZ9
              obtain ⟨b541, hZ9⟩ := hZ9
              obtain ⟨b542, hZ9⟩ := hZ9
              obtain ⟨b543, hZ9⟩ := hZ9
              obtain ⟨b544, hZ9⟩ := hZ9
              obtain ⟨b545, hZ9⟩ := hZ9
              obtain ⟨b546, hZ9⟩ := hZ9
              obtain ⟨b547, hZ9⟩ := hZ9
              obtain ⟨b548, hZ9⟩ := hZ9
              obtain ⟨b549, hZ9⟩ := hZ9
              obtain ⟨b550, hZ9⟩ := hZ9
              obtain ⟨b551, hZ9⟩ := hZ9
              obtain ⟨b552, hZ9⟩ := hZ9
              replace hZ9 := hZ9.2.2
              obtain ⟨-, hE556⟩ := hZ9
              replace hO512 : u510[10]? = (some (q 10, .inr (2, [.ref (q 11), .int y513, .int y514])) : Option (Nat × va_E)) := hO512
              replace hA516 : u510[11]? = (some (q 11, .inl (g 0, (220 : Int32).toNatClampNeg, .inl f515)) : Option (Nat × va_E)) := hA516
              replace hO517 : u510[12]? = (some (q 12, .inr (2, [.ref (q 13), .int y518, .int y519])) : Option (Nat × va_E)) := hO517
              replace hA521 : u510[13]? = (some (q 13, .inl (g 0, (220 : Int32).toNatClampNeg, .inl f520)) : Option (Nat × va_E)) := hA521
              replace hO522 : u510[14]? = (some (q 14, .inr (2, [.ref (q 15), .int y523, .int y524])) : Option (Nat × va_E)) := hO522
              replace hA526 : u510[15]? = (some (q 15, .inl (g 0, (220 : Int32).toNatClampNeg, .inl f525)) : Option (Nat × va_E)) := hA526
              replace hO527 : u510[18]? = (some (q 18, .inr (2, [.ref (q 19), .int y528, .int y529])) : Option (Nat × va_E)) := hO527
              replace hA531 : u510[19]? = (some (q 19, .inl (g 0, (220 : Int32).toNatClampNeg, .inl f530)) : Option (Nat × va_E)) := hA531
              replace hO532 : u510[k4]? = (some (q k4, .inr (2, [.ref (q (k4 + 1)), .int y533, .int y534])) : Option (Nat × va_E)) := hO532
              replace hA536 : u510[k4 + 1]? = (some (q (k4 + 1), .inl (g 0, (68 : Int32).toNatClampNeg, .inl f535)) : Option (Nat × va_E)) := hA536
              obtain ⟨p558, e559⟩ : ∃ z, z = (F_Mil_powerBelow_a (68 : Int32) y381 y382 f383 y386 y387 f388 t4_0 t4_1 t5_0 y391 y392 f393 y416 y417 f418) := ⟨_, rfl⟩
              have e560 : y513 = p558.1 := congrArg (fun z => z.1) (hE556.trans e559.symm)
              have e561 : y514 = p558.2.1 := congrArg (fun z => z.2.1) (hE556.trans e559.symm)
              have e562 : f515 = p558.2.2.1 := congrArg (fun z => z.2.2.1) (hE556.trans e559.symm)
              have e563 : y518 = p558.2.2.2.1 := congrArg (fun z => z.2.2.2.1) (hE556.trans e559.symm)
              have e564 : y519 = p558.2.2.2.2.1 := congrArg (fun z => z.2.2.2.2.1) (hE556.trans e559.symm)
              have e565 : f520 = p558.2.2.2.2.2.1 := congrArg (fun z => z.2.2.2.2.2.1) (hE556.trans e559.symm)
              have e566 : y523 = p558.2.2.2.2.2.2.1 := congrArg (fun z => z.2.2.2.2.2.2.1) (hE556.trans e559.symm)
              have e567 : y524 = p558.2.2.2.2.2.2.2.1 := congrArg (fun z => z.2.2.2.2.2.2.2.1) (hE556.trans e559.symm)
              have e568 : f525 = p558.2.2.2.2.2.2.2.2.1 := congrArg (fun z => z.2.2.2.2.2.2.2.2.1) (hE556.trans e559.symm)
              have e569 : y528 = p558.2.2.2.2.2.2.2.2.2.1 := congrArg (fun z => z.2.2.2.2.2.2.2.2.2.1) (hE556.trans e559.symm)
              have e570 : y529 = p558.2.2.2.2.2.2.2.2.2.2.1 := congrArg (fun z => z.2.2.2.2.2.2.2.2.2.2.1) (hE556.trans e559.symm)
              have e571 : f530 = p558.2.2.2.2.2.2.2.2.2.2.2.1 := congrArg (fun z => z.2.2.2.2.2.2.2.2.2.2.2.1) (hE556.trans e559.symm)
              have e572 : y533 = p558.2.2.2.2.2.2.2.2.2.2.2.2.1 := congrArg (fun z => z.2.2.2.2.2.2.2.2.2.2.2.2.1) (hE556.trans e559.symm)
              have e573 : y534 = p558.2.2.2.2.2.2.2.2.2.2.2.2.2.1 := congrArg (fun z => z.2.2.2.2.2.2.2.2.2.2.2.2.2.1) (hE556.trans e559.symm)
              have e574 : f535 = p558.2.2.2.2.2.2.2.2.2.2.2.2.2.2 := congrArg (fun z => z.2.2.2.2.2.2.2.2.2.2.2.2.2.2) (hE556.trans e559.symm)
              replace b537 : q_F (0 ≤ y519.toInt) := b537
              replace b538 : q_F (y519.toInt ≤ 0) := b538
              replace b540 : q_F (y519.toInt ≤ y513.toInt) := b540
              replace b541 : q_F (y513.toInt ≤ y523.toInt) := b541
              replace b542 : q_F (y524.toInt ≤ y514.toInt) := b542
              replace b543 : q_F (y514.toInt ≤ y524.toInt) := b543
              replace b544 : q_F (y519.toInt ≤ y518.toInt) := b544
              replace b545 : q_F (y518.toInt ≤ y519.toInt + 220) := b545
              replace b546 : q_F (y523.toInt ≤ y519.toInt + 220) := b546
              replace b547 : q_F (y524.toInt ≤ y519.toInt + 1) := b547
              replace b548 : q_F (y519.toInt ≤ y524.toInt) := b548
              replace b549 : q_F (y528.toInt ≤ y519.toInt + 220) := b549
              replace b550 : q_F (y519.toInt ≤ y528.toInt) := b550
              replace b551 : q_F (y529.toInt ≤ y519.toInt + 1) := b551
              replace b552 : q_F (y519.toInt ≤ y529.toInt) := b552
              replace hO395 := (hu557 _ (by have z0 := yk4; simp only [List.mem_cons, List.not_mem_nil, or_false, not_or]; omega)).trans hO395
              replace hA399 := (hu557 _ (by have z0 := yk4; simp only [List.mem_cons, List.not_mem_nil, or_false, not_or]; omega)).trans hA399
              replace hO400 := (hu557 _ (by have z0 := yk4; simp only [List.mem_cons, List.not_mem_nil, or_false, not_or]; omega)).trans hO400
              replace hA404 := (hu557 _ (by have z0 := yk4; simp only [List.mem_cons, List.not_mem_nil, or_false, not_or]; omega)).trans hA404
              replace hO405 := (hu557 _ (by have z0 := yk4; simp only [List.mem_cons, List.not_mem_nil, or_false, not_or]; omega)).trans hO405
              replace hA409 := (hu557 _ (by have z0 := yk4; simp only [List.mem_cons, List.not_mem_nil, or_false, not_or]; omega)).trans hA409
              replace hO410 := (hu557 _ (by have z0 := yk4; simp only [List.mem_cons, List.not_mem_nil, or_false, not_or]; omega)).trans hO410
              replace hA414 := (hu557 _ (by have z0 := yk4; simp only [List.mem_cons, List.not_mem_nil, or_false, not_or]; omega)).trans hA414
              replace hO126 := (hu557 _ (by have z0 := yk4; simp only [List.mem_cons, List.not_mem_nil, or_false, not_or]; omega)).trans hO126
              replace hF := q_uc hF hu557 (by simp)
              have hR575 := (show F_NH_powerModulo_et_c136_7 x2 x3 x4 x5 t0_0 t0_1 t1_0 t2_0 t2_1 t3_0 t4_0 t4_1 t5_0 t6_0 t6_1 t7_0 t8_0 t8_1 t9_0 t10_0 t10_1 t11_0 t12_0 t12_1 t13_0 t14_0 t14_1 t15_0 t16_0 t16_1 t17_0 t18_0 t18_1 t19_0 lx88 lx140 p462 y396 y397 f398 y401 y402 f403 y406 y407 f408 y411 y412 f413 p558 = (F_NH_powerModulo_et x2 x3 x4 x5 t0_0 t0_1 t1_0 t2_0 t2_1 t3_0 t4_0 t4_1 t5_0 t6_0 t6_1 t7_0 t8_0 t8_1 t9_0 t10_0 t10_1 t11_0 t12_0 t12_1 t13_0 t14_0 t14_1 t15_0 t16_0 t16_1 t17_0 t18_0 t18_1 t19_0) from Eq.trans (by have c500x := c500; rw [e464] at c500x; rw [e559, e488, e487, e486, e485, e484, e483, e482, e481, e480, e479, e478, e477, e476, e475, e474, e473, e472, e471, e470, e469, e468, e467, e466, e465, F_NH_powerModulo_et_c85.eq_1, if_pos c500x]) hR489)
              have hS576 := (show True ∧ S_NH_powerModulo_et_c136_7 x2 x3 x4 x5 t0_0 t0_1 t1_0 t2_0 t2_1 t3_0 t4_0 t4_1 t5_0 t6_0 t6_1 t7_0 t8_0 t8_1 t9_0 t10_0 t10_1 t11_0 t12_0 t12_1 t13_0 t14_0 t14_1 t15_0 t16_0 t16_1 t17_0 t18_0 t18_1 t19_0 lx88 lx140 p462 y396 y397 f398 y401 y402 f403 y406 y407 f408 y411 y412 f413 p558 from (by rw [e559, e488, e487, e486, e485, e484, e483, e482, e481, e480, e479, e478, e477, e476, e475, e474, e473, e472, e471, e470, e469, e468, e467, e466, e465]; have h := hS490; rw [S_NH_powerModulo_et_c85.eq_1] at h; have c500x := c500; rw [e464] at c500x; rw [if_pos c500x] at h; replace h := q_s2 h; with_reducible exact h))
              refine lv_aload_n hx hb d_1_10_139 rfl (lv_at hl 0 rfl) ?_
              refine lv_iload hx hb d_1_10_140 (lv_at hl 4 rfl) ?_
              have ob580 : True ∧ S_NH_keepWhole x5 y513 y514 f515 y533 y534 f535 := (by rw [e574, e573, e572, e562, e561, e560]; have h := hS576; rw [S_NH_powerModulo_et_c136_7.eq_1] at h; with_reducible exact h.2.1)
              refine q_goxv V (q_runVX (As := [.int x5]) (rest := []) (d := 8) (mc := 1) (ms := 6) (ci := 0) C0 V rfl LV_NH_243 (X_NH_keepWhole l D g q u510  x5 k4 hBk4 yk4 gk4x5 hlt hI y513 y514 hO512 f515 hA516 y533 y534 hO532 f535 hA536 ob580 _) rfl rfl hO126 rfl hl.1 rfl (Nat.le_of_ble_eq_true rfl) ⟨by decide, by decide⟩ ⟨Nat.le_of_ble_eq_true rfl, Nat.le_of_ble_eq_true rfl⟩ d_1_10_142) (fun qx Ex ce u581 H locs hp582 V hce hcv hcl => ?_) (fun u581 H locs hp582 V => ?_)
              ·
                obtain ⟨cx589, hZ9⟩ := hp582
                obtain ⟨he590, hZ9⟩ := hZ9
                obtain ⟨hc591, hZ9⟩ := hZ9
                obtain ⟨hI, hZ9⟩ := hZ9
                obtain ⟨hu592, hZ9⟩ := hZ9
                obtain ⟨y584, hZ9⟩ := hZ9
                obtain ⟨y585, hZ9⟩ := hZ9
                obtain ⟨f586, hZ9⟩ := hZ9
                obtain ⟨hO583, hZ9⟩ := hZ9
                obtain ⟨hA587, hE588⟩ := hZ9
                replace hO583 : u581[k4]? = (some (q k4, .inr (2, [.ref (q (k4 + 1)), .int y584, .int y585])) : Option (Nat × va_E)) := hO583
                replace hA587 : u581[k4 + 1]? = (some (q (k4 + 1), .inl (g 0, (68 : Int32).toNatClampNeg, .inl f586)) : Option (Nat × va_E)) := hA587
                obtain ⟨p593, e594⟩ : ∃ z, z = (F_NH_keepWhole x5 y513 y514 f515 y533 y534 f535) := ⟨_, rfl⟩
                have c595 : ¬ p593.1 = (0 : Int32) := fun z => hc591 (((congrArg (fun z => z.1) (hE588.trans e594.symm)) : cx589 = _).trans z)
                have e596 : y584 = p593.2.1 := congrArg (fun z => z.2.1) (hE588.trans e594.symm)
                have e597 : y585 = p593.2.2.1 := congrArg (fun z => z.2.2.1) (hE588.trans e594.symm)
                have e598 : f586 = p593.2.2.2 := congrArg (fun z => z.2.2.2) (hE588.trans e594.symm)
                replace hO512 := (hu592 _ (by have z0 := yk4; simp only [List.mem_cons, List.not_mem_nil, or_false, not_or]; omega)).trans hO512
                replace hA516 := (hu592 _ (by have z0 := yk4; simp only [List.mem_cons, List.not_mem_nil, or_false, not_or]; omega)).trans hA516
                replace hO517 := (hu592 _ (by have z0 := yk4; simp only [List.mem_cons, List.not_mem_nil, or_false, not_or]; omega)).trans hO517
                replace hA521 := (hu592 _ (by have z0 := yk4; simp only [List.mem_cons, List.not_mem_nil, or_false, not_or]; omega)).trans hA521
                replace hO522 := (hu592 _ (by have z0 := yk4; simp only [List.mem_cons, List.not_mem_nil, or_false, not_or]; omega)).trans hO522
                replace hA526 := (hu592 _ (by have z0 := yk4; simp only [List.mem_cons, List.not_mem_nil, or_false, not_or]; omega)).trans hA526
                replace hO527 := (hu592 _ (by have z0 := yk4; simp only [List.mem_cons, List.not_mem_nil, or_false, not_or]; omega)).trans hO527
                replace hA531 := (hu592 _ (by have z0 := yk4; simp only [List.mem_cons, List.not_mem_nil, or_false, not_or]; omega)).trans hA531
                replace hO395 := (hu592 _ (by have z0 := yk4; simp only [List.mem_cons, List.not_mem_nil, or_false, not_or]; omega)).trans hO395
                replace hA399 := (hu592 _ (by have z0 := yk4; simp only [List.mem_cons, List.not_mem_nil, or_false, not_or]; omega)).trans hA399
                replace hO400 := (hu592 _ (by have z0 := yk4; simp only [List.mem_cons, List.not_mem_nil, or_false, not_or]; omega)).trans hO400
                replace hA404 := (hu592 _ (by have z0 := yk4; simp only [List.mem_cons, List.not_mem_nil, or_false, not_or]; omega)).trans hA404
                replace hO405 := (hu592 _ (by have z0 := yk4; simp only [List.mem_cons, List.not_mem_nil, or_false, not_or]; omega)).trans hO405
                replace hA409 := (hu592 _ (by have z0 := yk4; simp only [List.mem_cons, List.not_mem_nil, or_false, not_or]; omega)).trans hA409
                replace hO410 := (hu592 _ (by have z0 := yk4; simp only [List.mem_cons, List.not_mem_nil, or_false, not_or]; omega)).trans hO410
                replace hA414 := (hu592 _ (by have z0 := yk4; simp only [List.mem_cons, List.not_mem_nil, or_false, not_or]; omega)).trans hA414
                replace hF := q_uc hF hu592 (by simp)
                have hR599 := (show F_NH_powerModulo_et_c142_8 x2 x3 x4 x5 t0_0 t0_1 t1_0 t2_0 t2_1 t3_0 t4_0 t4_1 t5_0 t6_0 t6_1 t7_0 t8_0 t8_1 t9_0 t10_0 t10_1 t11_0 t12_0 t12_1 t13_0 t14_0 t14_1 t15_0 t16_0 t16_1 t17_0 t18_0 t18_1 t19_0 lx88 lx140 p462 y396 y397 f398 y401 y402 f403 y406 y407 f408 y411 y412 f413 p558 y513 y514 f515 y518 y519 f520 y523 y524 f525 y528 y529 f530 p593 = (F_NH_powerModulo_et x2 x3 x4 x5 t0_0 t0_1 t1_0 t2_0 t2_1 t3_0 t4_0 t4_1 t5_0 t6_0 t6_1 t7_0 t8_0 t8_1 t9_0 t10_0 t10_1 t11_0 t12_0 t12_1 t13_0 t14_0 t14_1 t15_0 t16_0 t16_1 t17_0 t18_0 t18_1 t19_0) from Eq.trans (by rw [e594, e574, e573, e572, e571, e570, e569, e568, e567, e566, e565, e564, e563, e562, e561, e560, F_NH_powerModulo_et_c136_7.eq_1]) hR575)
                have hS600 := (show True ∧ S_NH_powerModulo_et_c142_8 x2 x3 x4 x5 t0_0 t0_1 t1_0 t2_0 t2_1 t3_0 t4_0 t4_1 t5_0 t6_0 t6_1 t7_0 t8_0 t8_1 t9_0 t10_0 t10_1 t11_0 t12_0 t12_1 t13_0 t14_0 t14_1 t15_0 t16_0 t16_1 t17_0 t18_0 t18_1 t19_0 lx88 lx140 p462 y396 y397 f398 y401 y402 f403 y406 y407 f408 y411 y412 f413 p558 y513 y514 f515 y518 y519 f520 y523 y524 f525 y528 y529 f530 p593 from (by rw [e594, e574, e573, e572, e571, e570, e569, e568, e567, e566, e565, e564, e563, e562, e561, e560]; have h := hS576; rw [S_NH_powerModulo_et_c136_7.eq_1] at h; replace h := q_s2 h; with_reducible exact h))
                exact q_outT hno C0 V (⟨p593.1, (he590.trans (congrArg qE ((congrArg (fun z => z.1) (hE588.trans e594.symm)) : cx589 = _))), c595, hI, hF, y513, y514, f515, y518, y519, f520, y523, y524, f525, y528, y529, f530, y396, y397, f398, y401, y402, f403, y406, y407, f408, y411, y412, f413, y584, y585, f586, hO512, hA516, hO517, hA521, hO522, hA526, hO527, hA531, hO395, hA399, hO400, hA404, hO405, hA409, hO410, hA414, hO583, hA587, (show (p593.1, y513, y514, f515, y518, y519, f520, y523, y524, f525, y528, y529, f530, y396, y397, f398, y401, y402, f403, y406, y407, f408, y411, y412, f413, y584, y585, f586) = (F_NH_powerModulo_et x2 x3 x4 x5 t0_0 t0_1 t1_0 t2_0 t2_1 t3_0 t4_0 t4_1 t5_0 t6_0 t6_1 t7_0 t8_0 t8_1 t9_0 t10_0 t10_1 t11_0 t12_0 t12_1 t13_0 t14_0 t14_1 t15_0 t16_0 t16_1 t17_0 t18_0 t18_1 t19_0) from Eq.trans (by rw [e598, e597, e596, F_NH_powerModulo_et_c142_8.eq_1, if_neg c595]) hR599)⟩) hce hcv hcl (Nat.le_of_ble_eq_true rfl) (Nat.le_of_ble_eq_true rfl)
              ·
                obtain ⟨hI, hZ9⟩ := hp582
                obtain ⟨hu619, hZ9⟩ := hZ9
                obtain ⟨y605, hZ9⟩ := hZ9
                obtain ⟨y606, hZ9⟩ := hZ9
                obtain ⟨f607, hZ9⟩ := hZ9
                obtain ⟨hO604, hZ9⟩ := hZ9
                obtain ⟨hA608, hZ9⟩ := hZ9
                obtain ⟨b609, hZ9⟩ := hZ9
                obtain ⟨b610, hZ9⟩ := hZ9
                obtain ⟨b611, hZ9⟩ := hZ9
                obtain ⟨b612, hZ9⟩ := hZ9
                obtain ⟨b613, hZ9⟩ := hZ9
                obtain ⟨b614, hZ9⟩ := hZ9
                obtain ⟨b615, hZ9⟩ := hZ9
                obtain ⟨b616, hZ9⟩ := hZ9
                obtain ⟨b617, hE618⟩ := hZ9
                replace hO604 : u581[k4]? = (some (q k4, .inr (2, [.ref (q (k4 + 1)), .int y605, .int y606])) : Option (Nat × va_E)) := hO604
                replace hA608 : u581[k4 + 1]? = (some (q (k4 + 1), .inl (g 0, (68 : Int32).toNatClampNeg, .inl f607)) : Option (Nat × va_E)) := hA608
                obtain ⟨p593, e594⟩ : ∃ z, z = (F_NH_keepWhole x5 y513 y514 f515 y533 y534 f535) := ⟨_, rfl⟩
                have c595 : p593.1 = (0 : Int32) := ((congrArg (fun z => z.1) (hE618.trans e594.symm)) : (0 : Int32) = _).symm
                have e621 : y605 = p593.2.1 := congrArg (fun z => z.2.1) (hE618.trans e594.symm)
                have e622 : y606 = p593.2.2.1 := congrArg (fun z => z.2.2.1) (hE618.trans e594.symm)
                have e623 : f607 = p593.2.2.2 := congrArg (fun z => z.2.2.2) (hE618.trans e594.symm)
                replace b609 : q_F (0 ≤ y605.toInt) := b609
                replace b610 : q_F (y605.toInt ≤ 68) := b610
                replace b611 : q_F (x5.toInt ≤ y605.toInt + 9) := b611
                replace b612 : q_F (y605.toInt ≤ x5.toInt + 68) := b612
                replace b613 : q_F (y605.toInt ≤ y513.toInt) := b613
                replace b614 : q_F (x5.toInt ≤ y606.toInt + 9) := b614
                replace b615 : q_F (y606.toInt ≤ x5.toInt + 1) := b615
                replace b616 : q_F (y514.toInt ≤ y606.toInt) := b616
                replace b617 : q_F (y606.toInt ≤ y514.toInt) := b617
                replace hO512 := (hu619 _ (by have z0 := yk4; simp only [List.mem_cons, List.not_mem_nil, or_false, not_or]; omega)).trans hO512
                replace hA516 := (hu619 _ (by have z0 := yk4; simp only [List.mem_cons, List.not_mem_nil, or_false, not_or]; omega)).trans hA516
                replace hO517 := (hu619 _ (by have z0 := yk4; simp only [List.mem_cons, List.not_mem_nil, or_false, not_or]; omega)).trans hO517
                replace hA521 := (hu619 _ (by have z0 := yk4; simp only [List.mem_cons, List.not_mem_nil, or_false, not_or]; omega)).trans hA521
                replace hO522 := (hu619 _ (by have z0 := yk4; simp only [List.mem_cons, List.not_mem_nil, or_false, not_or]; omega)).trans hO522
                replace hA526 := (hu619 _ (by have z0 := yk4; simp only [List.mem_cons, List.not_mem_nil, or_false, not_or]; omega)).trans hA526
                replace hO527 := (hu619 _ (by have z0 := yk4; simp only [List.mem_cons, List.not_mem_nil, or_false, not_or]; omega)).trans hO527
                replace hA531 := (hu619 _ (by have z0 := yk4; simp only [List.mem_cons, List.not_mem_nil, or_false, not_or]; omega)).trans hA531
                replace hO395 := (hu619 _ (by have z0 := yk4; simp only [List.mem_cons, List.not_mem_nil, or_false, not_or]; omega)).trans hO395
                replace hA399 := (hu619 _ (by have z0 := yk4; simp only [List.mem_cons, List.not_mem_nil, or_false, not_or]; omega)).trans hA399
                replace hO400 := (hu619 _ (by have z0 := yk4; simp only [List.mem_cons, List.not_mem_nil, or_false, not_or]; omega)).trans hO400
                replace hA404 := (hu619 _ (by have z0 := yk4; simp only [List.mem_cons, List.not_mem_nil, or_false, not_or]; omega)).trans hA404
                replace hO405 := (hu619 _ (by have z0 := yk4; simp only [List.mem_cons, List.not_mem_nil, or_false, not_or]; omega)).trans hO405
                replace hA409 := (hu619 _ (by have z0 := yk4; simp only [List.mem_cons, List.not_mem_nil, or_false, not_or]; omega)).trans hA409
                replace hO410 := (hu619 _ (by have z0 := yk4; simp only [List.mem_cons, List.not_mem_nil, or_false, not_or]; omega)).trans hO410
                replace hA414 := (hu619 _ (by have z0 := yk4; simp only [List.mem_cons, List.not_mem_nil, or_false, not_or]; omega)).trans hA414
                replace hF := q_uc hF hu619 (by simp)
                have hR599 := (show F_NH_powerModulo_et_c142_8 x2 x3 x4 x5 t0_0 t0_1 t1_0 t2_0 t2_1 t3_0 t4_0 t4_1 t5_0 t6_0 t6_1 t7_0 t8_0 t8_1 t9_0 t10_0 t10_1 t11_0 t12_0 t12_1 t13_0 t14_0 t14_1 t15_0 t16_0 t16_1 t17_0 t18_0 t18_1 t19_0 lx88 lx140 p462 y396 y397 f398 y401 y402 f403 y406 y407 f408 y411 y412 f413 p558 y513 y514 f515 y518 y519 f520 y523 y524 f525 y528 y529 f530 p593 = (F_NH_powerModulo_et x2 x3 x4 x5 t0_0 t0_1 t1_0 t2_0 t2_1 t3_0 t4_0 t4_1 t5_0 t6_0 t6_1 t7_0 t8_0 t8_1 t9_0 t10_0 t10_1 t11_0 t12_0 t12_1 t13_0 t14_0 t14_1 t15_0 t16_0 t16_1 t17_0 t18_0 t18_1 t19_0) from Eq.trans (by rw [e594, e574, e573, e572, e571, e570, e569, e568, e567, e566, e565, e564, e563, e562, e561, e560, F_NH_powerModulo_et_c136_7.eq_1]) hR575)
                have hS600 := (show True ∧ S_NH_powerModulo_et_c142_8 x2 x3 x4 x5 t0_0 t0_1 t1_0 t2_0 t2_1 t3_0 t4_0 t4_1 t5_0 t6_0 t6_1 t7_0 t8_0 t8_1 t9_0 t10_0 t10_1 t11_0 t12_0 t12_1 t13_0 t14_0 t14_1 t15_0 t16_0 t16_1 t17_0 t18_0 t18_1 t19_0 lx88 lx140 p462 y396 y397 f398 y401 y402 f403 y406 y407 f408 y411 y412 f413 p558 y513 y514 f515 y518 y519 f520 y523 y524 f525 y528 y529 f530 p593 from (by rw [e594, e574, e573, e572, e571, e570, e569, e568, e567, e566, e565, e564, e563, e562, e561, e560]; have h := hS576; rw [S_NH_powerModulo_et_c136_7.eq_1] at h; replace h := q_s2 h; with_reducible exact h))
                exact q_retX (q_retv C0 V (⟨hI, hF, y513, y514, f515, y518, y519, f520, y523, y524, f525, y528, y529, f530, y396, y397, f398, y401, y402, f403, y406, y407, f408, y411, y412, f413, y605, y606, f607, hO512, hA516, hO517, hA521, hO522, hA526, hO527, hA531, hO395, hA399, hO400, hA404, hO405, hA409, hO410, hA414, hO604, hA608, (show 0 ≤ y513.toInt from (by have t1 : 0 ≤ y519.toInt := b537; have t2 : y519.toInt ≤ y513.toInt := b540; omega)), (show y513.toInt ≤ 220 from (by have t1 : y519.toInt ≤ 0 := b538; have t2 : y513.toInt ≤ y523.toInt := b541; have t3 : y523.toInt ≤ y519.toInt + 220 := b546; omega)), (show 0 ≤ y514.toInt from (by have t1 : 0 ≤ y519.toInt := b537; have t2 : y524.toInt ≤ y514.toInt := b542; have t3 : y519.toInt ≤ y524.toInt := b548; omega)), (show y514.toInt ≤ 1 from (by have t1 : y519.toInt ≤ 0 := b538; have t2 : y514.toInt ≤ y524.toInt := b543; have t3 : y524.toInt ≤ y519.toInt + 1 := b547; omega)), (show 0 ≤ y518.toInt from (by have t1 : 0 ≤ y519.toInt := b537; have t2 : y519.toInt ≤ y518.toInt := b544; omega)), (show y518.toInt ≤ 220 from (by have t1 : y519.toInt ≤ 0 := b538; have t2 : y518.toInt ≤ y519.toInt + 220 := b545; omega)), (show 0 ≤ y519.toInt from (by first | with_reducible exact q_fe b537 | (have t1 : 0 ≤ y519.toInt := b537; omega))), (show y519.toInt ≤ 0 from (by first | with_reducible exact q_fe b538 | (have t1 : y519.toInt ≤ 0 := b538; omega))), (show 0 ≤ y523.toInt from (by have t1 : 0 ≤ y519.toInt := b537; have t2 : y519.toInt ≤ y513.toInt := b540; have t3 : y513.toInt ≤ y523.toInt := b541; omega)), (show y523.toInt ≤ 220 from (by have t1 : y519.toInt ≤ 0 := b538; have t2 : y523.toInt ≤ y519.toInt + 220 := b546; omega)), (show 0 ≤ y524.toInt from (by have t1 : 0 ≤ y519.toInt := b537; have t2 : y519.toInt ≤ y524.toInt := b548; omega)), (show y524.toInt ≤ 1 from (by have t1 : y519.toInt ≤ 0 := b538; have t2 : y524.toInt ≤ y519.toInt + 1 := b547; omega)), (show 0 ≤ y528.toInt from (by have t1 : 0 ≤ y519.toInt := b537; have t2 : y519.toInt ≤ y528.toInt := b550; omega)), (show y528.toInt ≤ 220 from (by have t1 : y519.toInt ≤ 0 := b538; have t2 : y528.toInt ≤ y519.toInt + 220 := b549; omega)), (show 0 ≤ y529.toInt from (by have t1 : 0 ≤ y519.toInt := b537; have t2 : y519.toInt ≤ y529.toInt := b552; omega)), (show y529.toInt ≤ 1 from (by have t1 : y519.toInt ≤ 0 := b538; have t2 : y529.toInt ≤ y519.toInt + 1 := b551; omega)), (show 0 ≤ y396.toInt from (by first | with_reducible exact q_fe b434 | (have t1 : 0 ≤ y396.toInt := b434; omega))), (show y396.toInt ≤ 220 from (by first | with_reducible exact q_fe b435 | (have t1 : y396.toInt ≤ 220 := b435; omega))), (show 0 ≤ y397.toInt from (by first | with_reducible exact q_fe b436 | (have t1 : 0 ≤ y397.toInt := b436; omega))), (show y397.toInt ≤ 1 from (by have t1 : 0 ≤ t18_1.toInt ∧ t18_1.toInt ≤ 1 := btt18_1; have t2 : y397.toInt ≤ t18_1.toInt := b453; omega)), (show 0 ≤ y401.toInt from (by first | with_reducible exact q_fe b437 | (have t1 : 0 ≤ y401.toInt := b437; omega))), (show y401.toInt ≤ 220 from (by first | with_reducible exact q_fe b438 | (have t1 : y401.toInt ≤ 220 := b438; omega))), (show 0 ≤ y402.toInt from (by first | with_reducible exact q_fe b439 | (have t1 : 0 ≤ y402.toInt := b439; omega))), (show y402.toInt ≤ 2 from (by have t1 : y417.toInt ≤ 1 := b451; have t2 : y402.toInt ≤ y417.toInt + 1 := b459; omega)), (show 0 ≤ y406.toInt from (by first | with_reducible exact q_fe b440 | (have t1 : 0 ≤ y406.toInt := b440; omega))), (show y406.toInt ≤ 220 from (by first | with_reducible exact q_fe b441 | (have t1 : y406.toInt ≤ 220 := b441; omega))), (show 0 ≤ y407.toInt from (by first | with_reducible exact q_fe b442 | (have t1 : 0 ≤ y407.toInt := b442; omega))), (show y407.toInt ≤ 1 from (by first | with_reducible exact q_fe b443 | (have t1 : y407.toInt ≤ 1 := b443; omega))), (show 0 ≤ y411.toInt from (by first | with_reducible exact q_fe b444 | (have t1 : 0 ≤ y411.toInt := b444; omega))), (show y411.toInt ≤ 220 from (by first | with_reducible exact q_fe b445 | (have t1 : y411.toInt ≤ 220 := b445; omega))), (show 0 ≤ y412.toInt from (by first | with_reducible exact q_fe b446 | (have t1 : 0 ≤ y412.toInt := b446; omega))), (show y412.toInt ≤ 1 from (by first | with_reducible exact q_fe b447 | (have t1 : y412.toInt ≤ 1 := b447; omega))), (show 0 ≤ y605.toInt from (by first | with_reducible exact q_fe b609 | (have t1 : 0 ≤ y605.toInt := b609; omega))), (show y605.toInt ≤ 68 from (by first | with_reducible exact q_fe b610 | (have t1 : y605.toInt ≤ 68 := b610; omega))), (show x2.toInt ≤ y519.toInt + 9 from (by have t1 : x2.toInt ≤ 9 := ob369; have t2 : 0 ≤ y519.toInt := b537; omega)), (show y519.toInt ≤ x2.toInt from (by have t1 : 0 ≤ x2.toInt := ob368; have t2 : y519.toInt ≤ 0 := b538; omega)), (show x3.toInt ≤ y519.toInt + 9 from (by have t1 : x3.toInt ≤ 9 := ob180; have t2 : 0 ≤ y519.toInt := b537; omega)), (show y519.toInt ≤ x3.toInt from (by have t1 : 0 ≤ x3.toInt := ob179; have t2 : y519.toInt ≤ 0 := b538; omega)), (show x4.toInt ≤ y519.toInt + 9 from (by have t1 : x4.toInt ≤ 9 := ob129; have t2 : 0 ≤ y519.toInt := b537; omega)), (show y519.toInt ≤ x4.toInt from (by have t1 : 0 ≤ x4.toInt := ob128; have t2 : y519.toInt ≤ 0 := b538; omega)), (show y402.toInt ≤ t18_0.toInt + 1 from (by first | with_reducible exact q_fe b454 | (have t1 : y402.toInt ≤ t18_0.toInt + 1 := b454; omega))), (show y402.toInt ≤ t18_1.toInt + 1 from (by have t1 : y417.toInt ≤ t18_1.toInt := b456; have t2 : y402.toInt ≤ y417.toInt + 1 := b459; omega)), (show x5.toInt ≤ y605.toInt + 9 from (by first | with_reducible exact q_fe b611 | (have t1 : x5.toInt ≤ y605.toInt + 9 := b611; omega))), (show y605.toInt ≤ x5.toInt + 68 from (by first | with_reducible exact q_fe b612 | (have t1 : y605.toInt ≤ x5.toInt + 68 := b612; omega))), (show x5.toInt ≤ y606.toInt + 9 from (by first | with_reducible exact q_fe b614 | (have t1 : x5.toInt ≤ y606.toInt + 9 := b614; omega))), (show y606.toInt ≤ x5.toInt + 1 from (by first | with_reducible exact q_fe b615 | (have t1 : y606.toInt ≤ x5.toInt + 1 := b615; omega))), (show y513.toInt ≤ y523.toInt from (by first | with_reducible exact q_fe b541 | (have t1 : y513.toInt ≤ y523.toInt := b541; omega))), (show y605.toInt ≤ y513.toInt from (by first | with_reducible exact q_fe b613 | (have t1 : y605.toInt ≤ y513.toInt := b613; omega))), (show y606.toInt ≤ y514.toInt from (by first | with_reducible exact q_fe b617 | (have t1 : y606.toInt ≤ y514.toInt := b617; omega))), (show y514.toInt ≤ y606.toInt from (by first | with_reducible exact q_fe b616 | (have t1 : y514.toInt ≤ y606.toInt := b616; omega))), (show y606.toInt ≤ y524.toInt from (by have t1 : y514.toInt ≤ y524.toInt := b543; have t2 : y606.toInt ≤ y514.toInt := b617; omega)), (show y524.toInt ≤ y606.toInt from (by have t1 : y524.toInt ≤ y514.toInt := b542; have t2 : y514.toInt ≤ y606.toInt := b616; omega)), (show ((0 : Int32), y513, y514, f515, y518, y519, f520, y523, y524, f525, y528, y529, f530, y396, y397, f398, y401, y402, f403, y406, y407, f408, y411, y412, f413, y605, y606, f607) = (F_NH_powerModulo_et x2 x3 x4 x5 t0_0 t0_1 t1_0 t2_0 t2_1 t3_0 t4_0 t4_1 t5_0 t6_0 t6_1 t7_0 t8_0 t8_1 t9_0 t10_0 t10_1 t11_0 t12_0 t12_1 t13_0 t14_0 t14_1 t15_0 t16_0 t16_1 t17_0 t18_0 t18_1 t19_0) from Eq.trans (by rw [e623, e622, e621, F_NH_powerModulo_et_c142_8.eq_1, if_pos c595]) hR599)⟩) d_1_10_145)
      ·
        intro J161
        refine lv_if_le (tgt := 53) hx hb d_1_10_46 (by decide) (fun c624 => ?_) (fun c624 => ?_)
        ·
          refine lv_iconst (v := 0) hx hb d_1_10_53 (by decide) ?_
          exact J161 ((0 : Int32)) _ _ _ ws ⟨(show q_F (0 ≤ 0) from (show 0 ≤ 0 from by omega)), (show q_F (0 ≤ 1) from (show 0 ≤ 1 from by omega)), V, q_lw hl (q_lw1 0 rfl (q_lw1 1 rfl (q_lw1 2 rfl (q_lw1 3 rfl (q_lw1 4 rfl q_lw0))))), (show F_NH_powerModulo_et_J54 x2 x3 x4 x5 t0_0 t0_1 t1_0 t2_0 t2_1 t3_0 t4_0 t4_1 t5_0 t6_0 t6_1 t7_0 t8_0 t8_1 t9_0 t10_0 t10_1 t11_0 t12_0 t12_1 t13_0 t14_0 t14_1 t15_0 t16_0 t16_1 t17_0 t18_0 t18_1 t19_0 lx88 0 = (F_NH_powerModulo_et x2 x3 x4 x5 t0_0 t0_1 t1_0 t2_0 t2_1 t3_0 t4_0 t4_1 t5_0 t6_0 t6_1 t7_0 t8_0 t8_1 t9_0 t10_0 t10_1 t11_0 t12_0 t12_1 t13_0 t14_0 t14_1 t15_0 t16_0 t16_1 t17_0 t18_0 t18_1 t19_0) from Eq.trans (by have c624x := c624; rw [e139] at c624x; rw [F_NH_powerModulo_et_J34.eq_1, if_pos c123, if_pos c624x]) hR112), (show True ∧ S_NH_powerModulo_et_J54 x2 x3 x4 x5 t0_0 t0_1 t1_0 t2_0 t2_1 t3_0 t4_0 t4_1 t5_0 t6_0 t6_1 t7_0 t8_0 t8_1 t9_0 t10_0 t10_1 t11_0 t12_0 t12_1 t13_0 t14_0 t14_1 t15_0 t16_0 t16_1 t17_0 t18_0 t18_1 t19_0 lx88 0 from (by have h := hS113; rw [S_NH_powerModulo_et_J34.eq_1] at h; rw [if_pos c123] at h; replace h := q_s2 h; replace h := q_s2 h; have c624x := c624; rw [e139] at c624x; rw [if_pos c624x] at h; with_reducible exact h))⟩
        ·
          refine lv_iconst (v := 1) hx hb d_1_10_49 (by decide) ?_
          refine lv_goto (tgt := 54) hx hb d_1_10_50 (by decide) ?_
          exact J161 ((1 : Int32)) _ _ _ ws ⟨(show q_F (0 ≤ 1) from (show 0 ≤ 1 from by omega)), (show q_F (1 ≤ 1) from (show 1 ≤ 1 from by omega)), V, q_lw hl (q_lw1 0 rfl (q_lw1 1 rfl (q_lw1 2 rfl (q_lw1 3 rfl (q_lw1 4 rfl q_lw0))))), (show F_NH_powerModulo_et_J54 x2 x3 x4 x5 t0_0 t0_1 t1_0 t2_0 t2_1 t3_0 t4_0 t4_1 t5_0 t6_0 t6_1 t7_0 t8_0 t8_1 t9_0 t10_0 t10_1 t11_0 t12_0 t12_1 t13_0 t14_0 t14_1 t15_0 t16_0 t16_1 t17_0 t18_0 t18_1 t19_0 lx88 1 = (F_NH_powerModulo_et x2 x3 x4 x5 t0_0 t0_1 t1_0 t2_0 t2_1 t3_0 t4_0 t4_1 t5_0 t6_0 t6_1 t7_0 t8_0 t8_1 t9_0 t10_0 t10_1 t11_0 t12_0 t12_1 t13_0 t14_0 t14_1 t15_0 t16_0 t16_1 t17_0 t18_0 t18_1 t19_0) from Eq.trans (by have c624x := c624; rw [e139] at c624x; rw [F_NH_powerModulo_et_J34.eq_1, if_pos c123, if_neg c624x]) hR112), (show True ∧ S_NH_powerModulo_et_J54 x2 x3 x4 x5 t0_0 t0_1 t1_0 t2_0 t2_1 t3_0 t4_0 t4_1 t5_0 t6_0 t6_1 t7_0 t8_0 t8_1 t9_0 t10_0 t10_1 t11_0 t12_0 t12_1 t13_0 t14_0 t14_1 t15_0 t16_0 t16_1 t17_0 t18_0 t18_1 t19_0 lx88 1 from (by have h := hS113; rw [S_NH_powerModulo_et_J34.eq_1] at h; rw [if_pos c123] at h; replace h := q_s2 h; replace h := q_s2 h; have c624x := c624; rw [e139] at c624x; rw [if_neg c624x] at h; with_reducible exact h))⟩
  ·
    intro J109
    refine q_join (X := Unit) (fun z H locs ls _ => q_Wd D g (va_A ws sz) s ws H locs ∧ lv_has ls 5 [(0, .ref (q 0)), (1, .int x2), (2, .int x3), (3, .int x4), (4, .int x5)] ∧ F_NH_powerModulo_et_J33 x2 x3 x4 x5 t0_0 t0_1 t1_0 t2_0 t2_1 t3_0 t4_0 t4_1 t5_0 t6_0 t6_1 t7_0 t8_0 t8_1 t9_0 t10_0 t10_1 t11_0 t12_0 t12_1 t13_0 t14_0 t14_1 t15_0 t16_0 t16_1 t17_0 t18_0 t18_1 t19_0 = (F_NH_powerModulo_et x2 x3 x4 x5 t0_0 t0_1 t1_0 t2_0 t2_1 t3_0 t4_0 t4_1 t5_0 t6_0 t6_1 t7_0 t8_0 t8_1 t9_0 t10_0 t10_1 t11_0 t12_0 t12_1 t13_0 t14_0 t14_1 t15_0 t16_0 t16_1 t17_0 t18_0 t18_1 t19_0) ∧ True ∧ S_NH_powerModulo_et_J33 x2 x3 x4 x5 t0_0 t0_1 t1_0 t2_0 t2_1 t3_0 t4_0 t4_1 t5_0 t6_0 t6_1 t7_0 t8_0 t8_1 t9_0 t10_0 t10_1 t11_0 t12_0 t12_1 t13_0 t14_0 t14_1 t15_0 t16_0 t16_1 t17_0 t18_0 t18_1 t19_0) (fun z => []) 33 0 0 ?_ ?_
    ·
      rintro _ H locs ls _ ⟨V, hl, hR648, hS649⟩
      replace hl : lv_has ls 5 [(0, .ref (q 0)), (1, .int x2), (2, .int x3), (3, .int x4), (4, .int x5)] := hl
      refine lv_iconst (v := 0) hx hb d_1_10_33 (by decide) ?_
      exact J109 ((0 : Int32)) _ _ _ ws ⟨(show q_F (0 ≤ 0) from (show 0 ≤ 0 from by omega)), (show q_F (0 ≤ 1) from (show 0 ≤ 1 from by omega)), V, q_lw hl (q_lw1 0 rfl (q_lw1 1 rfl (q_lw1 2 rfl (q_lw1 3 rfl (q_lw1 4 rfl q_lw0))))), (show F_NH_powerModulo_et_J34 x2 x3 x4 x5 t0_0 t0_1 t1_0 t2_0 t2_1 t3_0 t4_0 t4_1 t5_0 t6_0 t6_1 t7_0 t8_0 t8_1 t9_0 t10_0 t10_1 t11_0 t12_0 t12_1 t13_0 t14_0 t14_1 t15_0 t16_0 t16_1 t17_0 t18_0 t18_1 t19_0 0 = (F_NH_powerModulo_et x2 x3 x4 x5 t0_0 t0_1 t1_0 t2_0 t2_1 t3_0 t4_0 t4_1 t5_0 t6_0 t6_1 t7_0 t8_0 t8_1 t9_0 t10_0 t10_1 t11_0 t12_0 t12_1 t13_0 t14_0 t14_1 t15_0 t16_0 t16_1 t17_0 t18_0 t18_1 t19_0) from Eq.trans (by rw [F_NH_powerModulo_et_J33.eq_1]) hR648), (show True ∧ S_NH_powerModulo_et_J34 x2 x3 x4 x5 t0_0 t0_1 t1_0 t2_0 t2_1 t3_0 t4_0 t4_1 t5_0 t6_0 t6_1 t7_0 t8_0 t8_1 t9_0 t10_0 t10_1 t11_0 t12_0 t12_1 t13_0 t14_0 t14_1 t15_0 t16_0 t16_1 t17_0 t18_0 t18_1 t19_0 0 from (by have h := hS649; rw [S_NH_powerModulo_et_J33.eq_1] at h; with_reducible exact h))⟩
    ·
      intro J647
      refine lv_if_eq (tgt := 33) hx hb d_1_10_4 (by decide) (fun c653 => ?_) (fun c653 => ?_)
      ·
        exact J647 (()) _ _ _ ws ⟨V, q_lw hl (q_lw1 0 rfl (q_lw1 1 rfl (q_lw1 2 rfl (q_lw1 3 rfl (q_lw1 4 rfl q_lw0))))), (show F_NH_powerModulo_et_J33 x2 x3 x4 x5 t0_0 t0_1 t1_0 t2_0 t2_1 t3_0 t4_0 t4_1 t5_0 t6_0 t6_1 t7_0 t8_0 t8_1 t9_0 t10_0 t10_1 t11_0 t12_0 t12_1 t13_0 t14_0 t14_1 t15_0 t16_0 t16_1 t17_0 t18_0 t18_1 t19_0 = (F_NH_powerModulo_et x2 x3 x4 x5 t0_0 t0_1 t1_0 t2_0 t2_1 t3_0 t4_0 t4_1 t5_0 t6_0 t6_1 t7_0 t8_0 t8_1 t9_0 t10_0 t10_1 t11_0 t12_0 t12_1 t13_0 t14_0 t14_1 t15_0 t16_0 t16_1 t17_0 t18_0 t18_1 t19_0) from (by have c653x := c653; rw [e87] at c653x; rw [F_NH_powerModulo_et.eq_1, if_pos c653x])), (show True ∧ S_NH_powerModulo_et_J33 x2 x3 x4 x5 t0_0 t0_1 t1_0 t2_0 t2_1 t3_0 t4_0 t4_1 t5_0 t6_0 t6_1 t7_0 t8_0 t8_1 t9_0 t10_0 t10_1 t11_0 t12_0 t12_1 t13_0 t14_0 t14_1 t15_0 t16_0 t16_1 t17_0 t18_0 t18_1 t19_0 from (by have h := hS; rw [S_NH_powerModulo_et.eq_1] at h; have c653x := c653; rw [e87] at c653x; rw [if_pos c653x] at h; with_reducible exact h))⟩
      ·
        refine lv_iload_n hx hb d_1_10_7 rfl (lv_at hl 2 rfl) ?_
        refine q_goi V (q_runS (As := [.int x3]) (rest := []) (d := 1) (mc := 0) (ms := 0) C0 V rfl LS_NH_212 (X_NH_isRegister l D g q ws  x3 hI   _) rfl hl.1 rfl (Nat.le_of_ble_eq_true rfl) ⟨by decide, by decide⟩ ⟨Nat.le_of_ble_eq_true rfl, Nat.le_of_ble_eq_true rfl⟩ d_1_10_8) (fun a658 u656 H locs hp657 V => ?_)
        obtain ⟨rfl, b659, b660, hE661⟩ := hp657
        have e662 : a658 = (F_NH_isRegister x3) := hE661
        clear b659
        clear b660
        refine lv_if_eq (tgt := 33) hx hb d_1_10_11 (by decide) (fun c663 => ?_) (fun c663 => ?_)
        ·
          exact J647 (()) _ _ _ ws ⟨V, q_lw hl (q_lw1 0 rfl (q_lw1 1 rfl (q_lw1 2 rfl (q_lw1 3 rfl (q_lw1 4 rfl q_lw0))))), (show F_NH_powerModulo_et_J33 x2 x3 x4 x5 t0_0 t0_1 t1_0 t2_0 t2_1 t3_0 t4_0 t4_1 t5_0 t6_0 t6_1 t7_0 t8_0 t8_1 t9_0 t10_0 t10_1 t11_0 t12_0 t12_1 t13_0 t14_0 t14_1 t15_0 t16_0 t16_1 t17_0 t18_0 t18_1 t19_0 = (F_NH_powerModulo_et x2 x3 x4 x5 t0_0 t0_1 t1_0 t2_0 t2_1 t3_0 t4_0 t4_1 t5_0 t6_0 t6_1 t7_0 t8_0 t8_1 t9_0 t10_0 t10_1 t11_0 t12_0 t12_1 t13_0 t14_0 t14_1 t15_0 t16_0 t16_1 t17_0 t18_0 t18_1 t19_0) from (by have c653x := c653; rw [e87] at c653x; have c663x := c663; rw [e662] at c663x; rw [F_NH_powerModulo_et.eq_1, if_neg c653x, if_pos c663x])), (show True ∧ S_NH_powerModulo_et_J33 x2 x3 x4 x5 t0_0 t0_1 t1_0 t2_0 t2_1 t3_0 t4_0 t4_1 t5_0 t6_0 t6_1 t7_0 t8_0 t8_1 t9_0 t10_0 t10_1 t11_0 t12_0 t12_1 t13_0 t14_0 t14_1 t15_0 t16_0 t16_1 t17_0 t18_0 t18_1 t19_0 from (by have h := hS; rw [S_NH_powerModulo_et.eq_1] at h; have c653x := c653; rw [e87] at c653x; rw [if_neg c653x] at h; have c663x := c663; rw [e662] at c663x; rw [if_pos c663x] at h; with_reducible exact h))⟩
        ·
          refine lv_iload_n hx hb d_1_10_14 rfl (lv_at hl 3 rfl) ?_
          refine q_goi V (q_runS (As := [.int x4]) (rest := []) (d := 1) (mc := 0) (ms := 0) C0 V rfl LS_NH_212 (X_NH_isRegister l D g q ws  x4 hI   _) rfl hl.1 rfl (Nat.le_of_ble_eq_true rfl) ⟨by decide, by decide⟩ ⟨Nat.le_of_ble_eq_true rfl, Nat.le_of_ble_eq_true rfl⟩ d_1_10_15) (fun a668 u666 H locs hp667 V => ?_)
          obtain ⟨rfl, b669, b670, hE671⟩ := hp667
          have e672 : a668 = (F_NH_isRegister x4) := hE671
          clear b669
          clear b670
          refine lv_if_eq (tgt := 33) hx hb d_1_10_18 (by decide) (fun c673 => ?_) (fun c673 => ?_)
          ·
            exact J647 (()) _ _ _ ws ⟨V, q_lw hl (q_lw1 0 rfl (q_lw1 1 rfl (q_lw1 2 rfl (q_lw1 3 rfl (q_lw1 4 rfl q_lw0))))), (show F_NH_powerModulo_et_J33 x2 x3 x4 x5 t0_0 t0_1 t1_0 t2_0 t2_1 t3_0 t4_0 t4_1 t5_0 t6_0 t6_1 t7_0 t8_0 t8_1 t9_0 t10_0 t10_1 t11_0 t12_0 t12_1 t13_0 t14_0 t14_1 t15_0 t16_0 t16_1 t17_0 t18_0 t18_1 t19_0 = (F_NH_powerModulo_et x2 x3 x4 x5 t0_0 t0_1 t1_0 t2_0 t2_1 t3_0 t4_0 t4_1 t5_0 t6_0 t6_1 t7_0 t8_0 t8_1 t9_0 t10_0 t10_1 t11_0 t12_0 t12_1 t13_0 t14_0 t14_1 t15_0 t16_0 t16_1 t17_0 t18_0 t18_1 t19_0) from (by have c653x := c653; rw [e87] at c653x; have c663x := c663; rw [e662] at c663x; have c673x := c673; rw [e672] at c673x; rw [F_NH_powerModulo_et.eq_1, if_neg c653x, if_neg c663x, if_pos c673x])), (show True ∧ S_NH_powerModulo_et_J33 x2 x3 x4 x5 t0_0 t0_1 t1_0 t2_0 t2_1 t3_0 t4_0 t4_1 t5_0 t6_0 t6_1 t7_0 t8_0 t8_1 t9_0 t10_0 t10_1 t11_0 t12_0 t12_1 t13_0 t14_0 t14_1 t15_0 t16_0 t16_1 t17_0 t18_0 t18_1 t19_0 from (by have h := hS; rw [S_NH_powerModulo_et.eq_1] at h; have c653x := c653; rw [e87] at c653x; rw [if_neg c653x] at h; have c663x := c663; rw [e662] at c663x; rw [if_neg c663x] at h; have c673x := c673; rw [e672] at c673x; rw [if_pos c673x] at h; with_reducible exact h))⟩
          ·
            refine lv_iload hx hb d_1_10_21 (lv_at hl 4 rfl) ?_
            refine q_goi V (q_runS (As := [.int x5]) (rest := []) (d := 1) (mc := 0) (ms := 0) C0 V rfl LS_NH_212 (X_NH_isRegister l D g q ws  x5 hI   _) rfl hl.1 rfl (Nat.le_of_ble_eq_true rfl) ⟨by decide, by decide⟩ ⟨Nat.le_of_ble_eq_true rfl, Nat.le_of_ble_eq_true rfl⟩ d_1_10_23) (fun a678 u676 H locs hp677 V => ?_)
            obtain ⟨rfl, b679, b680, hE681⟩ := hp677
            have e682 : a678 = (F_NH_isRegister x5) := hE681
            clear b679
            clear b680
            refine lv_if_eq (tgt := 33) hx hb d_1_10_26 (by decide) (fun c683 => ?_) (fun c683 => ?_)
            ·
              exact J647 (()) _ _ _ ws ⟨V, q_lw hl (q_lw1 0 rfl (q_lw1 1 rfl (q_lw1 2 rfl (q_lw1 3 rfl (q_lw1 4 rfl q_lw0))))), (show F_NH_powerModulo_et_J33 x2 x3 x4 x5 t0_0 t0_1 t1_0 t2_0 t2_1 t3_0 t4_0 t4_1 t5_0 t6_0 t6_1 t7_0 t8_0 t8_1 t9_0 t10_0 t10_1 t11_0 t12_0 t12_1 t13_0 t14_0 t14_1 t15_0 t16_0 t16_1 t17_0 t18_0 t18_1 t19_0 = (F_NH_powerModulo_et x2 x3 x4 x5 t0_0 t0_1 t1_0 t2_0 t2_1 t3_0 t4_0 t4_1 t5_0 t6_0 t6_1 t7_0 t8_0 t8_1 t9_0 t10_0 t10_1 t11_0 t12_0 t12_1 t13_0 t14_0 t14_1 t15_0 t16_0 t16_1 t17_0 t18_0 t18_1 t19_0) from (by have c653x := c653; rw [e87] at c653x; have c663x := c663; rw [e662] at c663x; have c673x := c673; rw [e672] at c673x; have c683x := c683; rw [e682] at c683x; rw [F_NH_powerModulo_et.eq_1, if_neg c653x, if_neg c663x, if_neg c673x, if_pos c683x])), (show True ∧ S_NH_powerModulo_et_J33 x2 x3 x4 x5 t0_0 t0_1 t1_0 t2_0 t2_1 t3_0 t4_0 t4_1 t5_0 t6_0 t6_1 t7_0 t8_0 t8_1 t9_0 t10_0 t10_1 t11_0 t12_0 t12_1 t13_0 t14_0 t14_1 t15_0 t16_0 t16_1 t17_0 t18_0 t18_1 t19_0 from (by have h := hS; rw [S_NH_powerModulo_et.eq_1] at h; have c653x := c653; rw [e87] at c653x; rw [if_neg c653x] at h; have c663x := c663; rw [e662] at c663x; rw [if_neg c663x] at h; have c673x := c673; rw [e672] at c673x; rw [if_neg c673x] at h; have c683x := c683; rw [e682] at c683x; rw [if_pos c683x] at h; with_reducible exact h))⟩
            ·
              refine lv_iconst (v := 1) hx hb d_1_10_29 (by decide) ?_
              refine lv_goto (tgt := 34) hx hb d_1_10_30 (by decide) ?_
              exact J109 ((1 : Int32)) _ _ _ ws ⟨(show q_F (0 ≤ 1) from (show 0 ≤ 1 from by omega)), (show q_F (1 ≤ 1) from (show 1 ≤ 1 from by omega)), V, q_lw hl (q_lw1 0 rfl (q_lw1 1 rfl (q_lw1 2 rfl (q_lw1 3 rfl (q_lw1 4 rfl q_lw0))))), (show F_NH_powerModulo_et_J34 x2 x3 x4 x5 t0_0 t0_1 t1_0 t2_0 t2_1 t3_0 t4_0 t4_1 t5_0 t6_0 t6_1 t7_0 t8_0 t8_1 t9_0 t10_0 t10_1 t11_0 t12_0 t12_1 t13_0 t14_0 t14_1 t15_0 t16_0 t16_1 t17_0 t18_0 t18_1 t19_0 1 = (F_NH_powerModulo_et x2 x3 x4 x5 t0_0 t0_1 t1_0 t2_0 t2_1 t3_0 t4_0 t4_1 t5_0 t6_0 t6_1 t7_0 t8_0 t8_1 t9_0 t10_0 t10_1 t11_0 t12_0 t12_1 t13_0 t14_0 t14_1 t15_0 t16_0 t16_1 t17_0 t18_0 t18_1 t19_0) from (by have c653x := c653; rw [e87] at c653x; have c663x := c663; rw [e662] at c663x; have c673x := c673; rw [e672] at c673x; have c683x := c683; rw [e682] at c683x; rw [F_NH_powerModulo_et.eq_1, if_neg c653x, if_neg c663x, if_neg c673x, if_neg c683x])), (show True ∧ S_NH_powerModulo_et_J34 x2 x3 x4 x5 t0_0 t0_1 t1_0 t2_0 t2_1 t3_0 t4_0 t4_1 t5_0 t6_0 t6_1 t7_0 t8_0 t8_1 t9_0 t10_0 t10_1 t11_0 t12_0 t12_1 t13_0 t14_0 t14_1 t15_0 t16_0 t16_1 t17_0 t18_0 t18_1 t19_0 1 from (by have h := hS; rw [S_NH_powerModulo_et.eq_1] at h; have c653x := c653; rw [e87] at c653x; rw [if_neg c653x] at h; have c663x := c663; rw [e662] at c663x; rw [if_neg c663x] at h; have c673x := c673; rw [e672] at c673x; rw [if_neg c673x] at h; have c683x := c683; rw [e682] at c683x; rw [if_neg c683x] at h; with_reducible exact h))⟩

