/-! NumberHouse, exactly: p5.powerModulo_at -/
def F_NH_powerModulo_at_c142 (x2 : Int32) (x3 : Int32) (x4 : Int32) (x5 : Int32) (t0_0 : Int32) (t0_1 : Int32) (t1_0 : (Nat → Int32)) (t2_0 : Int32) (t2_1 : Int32) (t3_0 : (Nat → Int32)) (t4_0 : Int32) (t4_1 : Int32) (t5_0 : (Nat → Int32)) (t6_0 : Int32) (t6_1 : Int32) (t7_0 : (Nat → Int32)) (t8_0 : Int32) (t8_1 : Int32) (t9_0 : (Nat → Int32)) (t10_0 : Int32) (t10_1 : Int32) (t11_0 : (Nat → Int32)) (t12_0 : Int32) (t12_1 : Int32) (t13_0 : (Nat → Int32)) (t14_0 : Int32) (t14_1 : Int32) (t15_0 : (Nat → Int32)) (t16_0 : Int32) (t16_1 : Int32) (t17_0 : (Nat → Int32)) (t18_0 : Int32) (t18_1 : Int32) (t19_0 : (Nat → Int32)) (lx88 : Int32) (lx140 : Int32) (p229 : (Int32 × Int32 × (Nat → Int32) × Int32 × Int32 × (Nat → Int32) × Int32 × Int32 × (Nat → Int32))) (p300 : (Int32 × Int32 × (Nat → Int32) × Int32 × Int32 × (Nat → Int32) × Int32 × Int32 × (Nat → Int32) × Int32 × Int32 × (Nat → Int32) × Int32 × Int32 × (Nat → Int32))) (y255 : Int32) (y256 : Int32) (f257 : (Nat → Int32)) (y260 : Int32) (y261 : Int32) (f262 : (Nat → Int32)) (y265 : Int32) (y266 : Int32) (f267 : (Nat → Int32)) (y270 : Int32) (y271 : Int32) (f272 : (Nat → Int32)) (p335 : (Int32 × Int32 × Int32 × (Nat → Int32))) : Int32 × Int32 × Int32 × (Nat → Int32) × Int32 × Int32 × (Nat → Int32) × Int32 × Int32 × (Nat → Int32) × Int32 × Int32 × (Nat → Int32) × Int32 × Int32 × (Nat → Int32) × Int32 × Int32 × (Nat → Int32) × Int32 × Int32 × (Nat → Int32) × Int32 × Int32 × (Nat → Int32) × Int32 × Int32 × (Nat → Int32) := if p335.1 = (0 : Int32) then (((0 : Int32), y255, y256, f257, y260, y261, f262, y265, y266, f267, y270, y271, f272, t8_0, t8_1, t9_0, t10_0, t10_1, t11_0, t12_0, t12_1, t13_0, t14_0, t14_1, t15_0, (p335.2.1 : Int32), (p335.2.2.1 : Int32), (p335.2.2.2 : (Nat → Int32)))) else ((p335.1, y255, y256, f257, y260, y261, f262, y265, y266, f267, y270, y271, f272, t8_0, t8_1, t9_0, t10_0, t10_1, t11_0, t12_0, t12_1, t13_0, t14_0, t14_1, t15_0, (p335.2.1 : Int32), (p335.2.2.1 : Int32), (p335.2.2.2 : (Nat → Int32))))
def F_NH_powerModulo_at_c136 (x2 : Int32) (x3 : Int32) (x4 : Int32) (x5 : Int32) (t0_0 : Int32) (t0_1 : Int32) (t1_0 : (Nat → Int32)) (t2_0 : Int32) (t2_1 : Int32) (t3_0 : (Nat → Int32)) (t4_0 : Int32) (t4_1 : Int32) (t5_0 : (Nat → Int32)) (t6_0 : Int32) (t6_1 : Int32) (t7_0 : (Nat → Int32)) (t8_0 : Int32) (t8_1 : Int32) (t9_0 : (Nat → Int32)) (t10_0 : Int32) (t10_1 : Int32) (t11_0 : (Nat → Int32)) (t12_0 : Int32) (t12_1 : Int32) (t13_0 : (Nat → Int32)) (t14_0 : Int32) (t14_1 : Int32) (t15_0 : (Nat → Int32)) (t16_0 : Int32) (t16_1 : Int32) (t17_0 : (Nat → Int32)) (t18_0 : Int32) (t18_1 : Int32) (t19_0 : (Nat → Int32)) (lx88 : Int32) (lx140 : Int32) (p229 : (Int32 × Int32 × (Nat → Int32) × Int32 × Int32 × (Nat → Int32) × Int32 × Int32 × (Nat → Int32))) (p300 : (Int32 × Int32 × (Nat → Int32) × Int32 × Int32 × (Nat → Int32) × Int32 × Int32 × (Nat → Int32) × Int32 × Int32 × (Nat → Int32) × Int32 × Int32 × (Nat → Int32))) : Int32 × Int32 × Int32 × (Nat → Int32) × Int32 × Int32 × (Nat → Int32) × Int32 × Int32 × (Nat → Int32) × Int32 × Int32 × (Nat → Int32) × Int32 × Int32 × (Nat → Int32) × Int32 × Int32 × (Nat → Int32) × Int32 × Int32 × (Nat → Int32) × Int32 × Int32 × (Nat → Int32) × Int32 × Int32 × (Nat → Int32) := F_NH_powerModulo_at_c142 x2 x3 x4 x5 t0_0 t0_1 t1_0 t2_0 t2_1 t3_0 t4_0 t4_1 t5_0 t6_0 t6_1 t7_0 t8_0 t8_1 t9_0 t10_0 t10_1 t11_0 t12_0 t12_1 t13_0 t14_0 t14_1 t15_0 t16_0 t16_1 t17_0 t18_0 t18_1 t19_0 lx88 lx140 p229 p300 (p300.1 : Int32) (p300.2.1 : Int32) (p300.2.2.1 : (Nat → Int32)) (p300.2.2.2.1 : Int32) (p300.2.2.2.2.1 : Int32) (p300.2.2.2.2.2.1 : (Nat → Int32)) (p300.2.2.2.2.2.2.1 : Int32) (p300.2.2.2.2.2.2.2.1 : Int32) (p300.2.2.2.2.2.2.2.2.1 : (Nat → Int32)) (p300.2.2.2.2.2.2.2.2.2.1 : Int32) (p300.2.2.2.2.2.2.2.2.2.2.1 : Int32) (p300.2.2.2.2.2.2.2.2.2.2.2.1 : (Nat → Int32)) ((F_NH_keepWhole x5 (p300.1 : Int32) (p300.2.1 : Int32) (p300.2.2.1 : (Nat → Int32)) (p300.2.2.2.2.2.2.2.2.2.2.2.2.1 : Int32) (p300.2.2.2.2.2.2.2.2.2.2.2.2.2.1 : Int32) (p300.2.2.2.2.2.2.2.2.2.2.2.2.2.2 : (Nat → Int32))) : (Int32 × Int32 × Int32 × (Nat → Int32)))
def F_NH_powerModulo_at_c117 (x2 : Int32) (x3 : Int32) (x4 : Int32) (x5 : Int32) (t0_0 : Int32) (t0_1 : Int32) (t1_0 : (Nat → Int32)) (t2_0 : Int32) (t2_1 : Int32) (t3_0 : (Nat → Int32)) (t4_0 : Int32) (t4_1 : Int32) (t5_0 : (Nat → Int32)) (t6_0 : Int32) (t6_1 : Int32) (t7_0 : (Nat → Int32)) (t8_0 : Int32) (t8_1 : Int32) (t9_0 : (Nat → Int32)) (t10_0 : Int32) (t10_1 : Int32) (t11_0 : (Nat → Int32)) (t12_0 : Int32) (t12_1 : Int32) (t13_0 : (Nat → Int32)) (t14_0 : Int32) (t14_1 : Int32) (t15_0 : (Nat → Int32)) (t16_0 : Int32) (t16_1 : Int32) (t17_0 : (Nat → Int32)) (t18_0 : Int32) (t18_1 : Int32) (t19_0 : (Nat → Int32)) (lx88 : Int32) (lx140 : Int32) (p229 : (Int32 × Int32 × (Nat → Int32) × Int32 × Int32 × (Nat → Int32) × Int32 × Int32 × (Nat → Int32))) : Int32 × Int32 × Int32 × (Nat → Int32) × Int32 × Int32 × (Nat → Int32) × Int32 × Int32 × (Nat → Int32) × Int32 × Int32 × (Nat → Int32) × Int32 × Int32 × (Nat → Int32) × Int32 × Int32 × (Nat → Int32) × Int32 × Int32 × (Nat → Int32) × Int32 × Int32 × (Nat → Int32) × Int32 × Int32 × (Nat → Int32) := F_NH_powerModulo_at_c136 x2 x3 x4 x5 t0_0 t0_1 t1_0 t2_0 t2_1 t3_0 t4_0 t4_1 t5_0 t6_0 t6_1 t7_0 t8_0 t8_1 t9_0 t10_0 t10_1 t11_0 t12_0 t12_1 t13_0 t14_0 t14_1 t15_0 t16_0 t16_1 t17_0 t18_0 t18_1 t19_0 lx88 lx140 p229 ((F_Mil_powerBelow (68 : Int32) (68 : Int32) (p229.2.2.2.2.2.2.1 : Int32) (p229.2.2.2.2.2.2.2.1 : Int32) (p229.2.2.2.2.2.2.2.2 : (Nat → Int32)) (p229.1 : Int32) (p229.2.1 : Int32) (p229.2.2.1 : (Nat → Int32)) t4_0 t4_1 t5_0 t6_0 t6_1 t7_0 t18_0 t18_1 t19_0 (p229.2.2.2.1 : Int32) (p229.2.2.2.2.1 : Int32) (p229.2.2.2.2.2.1 : (Nat → Int32))) : (Int32 × Int32 × (Nat → Int32) × Int32 × Int32 × (Nat → Int32) × Int32 × Int32 × (Nat → Int32) × Int32 × Int32 × (Nat → Int32) × Int32 × Int32 × (Nat → Int32)))
def F_NH_powerModulo_at_c142_8 (x2 : Int32) (x3 : Int32) (x4 : Int32) (x5 : Int32) (t0_0 : Int32) (t0_1 : Int32) (t1_0 : (Nat → Int32)) (t2_0 : Int32) (t2_1 : Int32) (t3_0 : (Nat → Int32)) (t4_0 : Int32) (t4_1 : Int32) (t5_0 : (Nat → Int32)) (t6_0 : Int32) (t6_1 : Int32) (t7_0 : (Nat → Int32)) (t8_0 : Int32) (t8_1 : Int32) (t9_0 : (Nat → Int32)) (t10_0 : Int32) (t10_1 : Int32) (t11_0 : (Nat → Int32)) (t12_0 : Int32) (t12_1 : Int32) (t13_0 : (Nat → Int32)) (t14_0 : Int32) (t14_1 : Int32) (t15_0 : (Nat → Int32)) (t16_0 : Int32) (t16_1 : Int32) (t17_0 : (Nat → Int32)) (t18_0 : Int32) (t18_1 : Int32) (t19_0 : (Nat → Int32)) (lx88 : Int32) (lx140 : Int32) (p459 : (Int32 × Int32 × Int32 × (Nat → Int32) × Int32 × Int32 × (Nat → Int32) × Int32 × Int32 × (Nat → Int32) × Int32 × Int32 × (Nat → Int32) × Int32 × Int32 × (Nat → Int32) × Int32 × Int32 × (Nat → Int32) × Int32 × Int32 × (Nat → Int32) × Int32 × Int32 × (Nat → Int32))) (y396 : Int32) (y397 : Int32) (f398 : (Nat → Int32)) (y401 : Int32) (y402 : Int32) (f403 : (Nat → Int32)) (y406 : Int32) (y407 : Int32) (f408 : (Nat → Int32)) (y411 : Int32) (y412 : Int32) (f413 : (Nat → Int32)) (p555 : (Int32 × Int32 × (Nat → Int32) × Int32 × Int32 × (Nat → Int32) × Int32 × Int32 × (Nat → Int32) × Int32 × Int32 × (Nat → Int32) × Int32 × Int32 × (Nat → Int32))) (y510 : Int32) (y511 : Int32) (f512 : (Nat → Int32)) (y515 : Int32) (y516 : Int32) (f517 : (Nat → Int32)) (y520 : Int32) (y521 : Int32) (f522 : (Nat → Int32)) (y525 : Int32) (y526 : Int32) (f527 : (Nat → Int32)) (p590 : (Int32 × Int32 × Int32 × (Nat → Int32))) : Int32 × Int32 × Int32 × (Nat → Int32) × Int32 × Int32 × (Nat → Int32) × Int32 × Int32 × (Nat → Int32) × Int32 × Int32 × (Nat → Int32) × Int32 × Int32 × (Nat → Int32) × Int32 × Int32 × (Nat → Int32) × Int32 × Int32 × (Nat → Int32) × Int32 × Int32 × (Nat → Int32) × Int32 × Int32 × (Nat → Int32) := if p590.1 = (0 : Int32) then (((0 : Int32), y510, y511, f512, y515, y516, f517, y520, y521, f522, y525, y526, f527, y396, y397, f398, y401, y402, f403, y406, y407, f408, y411, y412, f413, (p590.2.1 : Int32), (p590.2.2.1 : Int32), (p590.2.2.2 : (Nat → Int32)))) else ((p590.1, y510, y511, f512, y515, y516, f517, y520, y521, f522, y525, y526, f527, y396, y397, f398, y401, y402, f403, y406, y407, f408, y411, y412, f413, (p590.2.1 : Int32), (p590.2.2.1 : Int32), (p590.2.2.2 : (Nat → Int32))))
def F_NH_powerModulo_at_c136_7 (x2 : Int32) (x3 : Int32) (x4 : Int32) (x5 : Int32) (t0_0 : Int32) (t0_1 : Int32) (t1_0 : (Nat → Int32)) (t2_0 : Int32) (t2_1 : Int32) (t3_0 : (Nat → Int32)) (t4_0 : Int32) (t4_1 : Int32) (t5_0 : (Nat → Int32)) (t6_0 : Int32) (t6_1 : Int32) (t7_0 : (Nat → Int32)) (t8_0 : Int32) (t8_1 : Int32) (t9_0 : (Nat → Int32)) (t10_0 : Int32) (t10_1 : Int32) (t11_0 : (Nat → Int32)) (t12_0 : Int32) (t12_1 : Int32) (t13_0 : (Nat → Int32)) (t14_0 : Int32) (t14_1 : Int32) (t15_0 : (Nat → Int32)) (t16_0 : Int32) (t16_1 : Int32) (t17_0 : (Nat → Int32)) (t18_0 : Int32) (t18_1 : Int32) (t19_0 : (Nat → Int32)) (lx88 : Int32) (lx140 : Int32) (p459 : (Int32 × Int32 × Int32 × (Nat → Int32) × Int32 × Int32 × (Nat → Int32) × Int32 × Int32 × (Nat → Int32) × Int32 × Int32 × (Nat → Int32) × Int32 × Int32 × (Nat → Int32) × Int32 × Int32 × (Nat → Int32) × Int32 × Int32 × (Nat → Int32) × Int32 × Int32 × (Nat → Int32))) (y396 : Int32) (y397 : Int32) (f398 : (Nat → Int32)) (y401 : Int32) (y402 : Int32) (f403 : (Nat → Int32)) (y406 : Int32) (y407 : Int32) (f408 : (Nat → Int32)) (y411 : Int32) (y412 : Int32) (f413 : (Nat → Int32)) (p555 : (Int32 × Int32 × (Nat → Int32) × Int32 × Int32 × (Nat → Int32) × Int32 × Int32 × (Nat → Int32) × Int32 × Int32 × (Nat → Int32) × Int32 × Int32 × (Nat → Int32))) : Int32 × Int32 × Int32 × (Nat → Int32) × Int32 × Int32 × (Nat → Int32) × Int32 × Int32 × (Nat → Int32) × Int32 × Int32 × (Nat → Int32) × Int32 × Int32 × (Nat → Int32) × Int32 × Int32 × (Nat → Int32) × Int32 × Int32 × (Nat → Int32) × Int32 × Int32 × (Nat → Int32) × Int32 × Int32 × (Nat → Int32) := F_NH_powerModulo_at_c142_8 x2 x3 x4 x5 t0_0 t0_1 t1_0 t2_0 t2_1 t3_0 t4_0 t4_1 t5_0 t6_0 t6_1 t7_0 t8_0 t8_1 t9_0 t10_0 t10_1 t11_0 t12_0 t12_1 t13_0 t14_0 t14_1 t15_0 t16_0 t16_1 t17_0 t18_0 t18_1 t19_0 lx88 lx140 p459 y396 y397 f398 y401 y402 f403 y406 y407 f408 y411 y412 f413 p555 (p555.1 : Int32) (p555.2.1 : Int32) (p555.2.2.1 : (Nat → Int32)) (p555.2.2.2.1 : Int32) (p555.2.2.2.2.1 : Int32) (p555.2.2.2.2.2.1 : (Nat → Int32)) (p555.2.2.2.2.2.2.1 : Int32) (p555.2.2.2.2.2.2.2.1 : Int32) (p555.2.2.2.2.2.2.2.2.1 : (Nat → Int32)) (p555.2.2.2.2.2.2.2.2.2.1 : Int32) (p555.2.2.2.2.2.2.2.2.2.2.1 : Int32) (p555.2.2.2.2.2.2.2.2.2.2.2.1 : (Nat → Int32)) ((F_NH_keepWhole x5 (p555.1 : Int32) (p555.2.1 : Int32) (p555.2.2.1 : (Nat → Int32)) (p555.2.2.2.2.2.2.2.2.2.2.2.2.1 : Int32) (p555.2.2.2.2.2.2.2.2.2.2.2.2.2.1 : Int32) (p555.2.2.2.2.2.2.2.2.2.2.2.2.2.2 : (Nat → Int32))) : (Int32 × Int32 × Int32 × (Nat → Int32)))
def F_NH_powerModulo_at_c85 (x2 : Int32) (x3 : Int32) (x4 : Int32) (x5 : Int32) (t0_0 : Int32) (t0_1 : Int32) (t1_0 : (Nat → Int32)) (t2_0 : Int32) (t2_1 : Int32) (t3_0 : (Nat → Int32)) (t4_0 : Int32) (t4_1 : Int32) (t5_0 : (Nat → Int32)) (t6_0 : Int32) (t6_1 : Int32) (t7_0 : (Nat → Int32)) (t8_0 : Int32) (t8_1 : Int32) (t9_0 : (Nat → Int32)) (t10_0 : Int32) (t10_1 : Int32) (t11_0 : (Nat → Int32)) (t12_0 : Int32) (t12_1 : Int32) (t13_0 : (Nat → Int32)) (t14_0 : Int32) (t14_1 : Int32) (t15_0 : (Nat → Int32)) (t16_0 : Int32) (t16_1 : Int32) (t17_0 : (Nat → Int32)) (t18_0 : Int32) (t18_1 : Int32) (t19_0 : (Nat → Int32)) (lx88 : Int32) (lx140 : Int32) (p459 : (Int32 × Int32 × Int32 × (Nat → Int32) × Int32 × Int32 × (Nat → Int32) × Int32 × Int32 × (Nat → Int32) × Int32 × Int32 × (Nat → Int32) × Int32 × Int32 × (Nat → Int32) × Int32 × Int32 × (Nat → Int32) × Int32 × Int32 × (Nat → Int32) × Int32 × Int32 × (Nat → Int32))) : Int32 × Int32 × Int32 × (Nat → Int32) × Int32 × Int32 × (Nat → Int32) × Int32 × Int32 × (Nat → Int32) × Int32 × Int32 × (Nat → Int32) × Int32 × Int32 × (Nat → Int32) × Int32 × Int32 × (Nat → Int32) × Int32 × Int32 × (Nat → Int32) × Int32 × Int32 × (Nat → Int32) × Int32 × Int32 × (Nat → Int32) := if (F_NH_canHave (p459.1 : Int32)) = (0 : Int32) then (F_NH_powerModulo_at_c136_7 x2 x3 x4 x5 t0_0 t0_1 t1_0 t2_0 t2_1 t3_0 t4_0 t4_1 t5_0 t6_0 t6_1 t7_0 t8_0 t8_1 t9_0 t10_0 t10_1 t11_0 t12_0 t12_1 t13_0 t14_0 t14_1 t15_0 t16_0 t16_1 t17_0 t18_0 t18_1 t19_0 lx88 lx140 p459 (p459.2.2.2.2.2.2.2.2.2.2.1 : Int32) (p459.2.2.2.2.2.2.2.2.2.2.2.1 : Int32) (p459.2.2.2.2.2.2.2.2.2.2.2.2.1 : (Nat → Int32)) (p459.2.2.2.2.2.2.2.2.2.2.2.2.2.1 : Int32) (p459.2.2.2.2.2.2.2.2.2.2.2.2.2.2.1 : Int32) (p459.2.2.2.2.2.2.2.2.2.2.2.2.2.2.2.1 : (Nat → Int32)) (p459.2.2.2.2.2.2.2.2.2.2.2.2.2.2.2.2.1 : Int32) (p459.2.2.2.2.2.2.2.2.2.2.2.2.2.2.2.2.2.1 : Int32) (p459.2.2.2.2.2.2.2.2.2.2.2.2.2.2.2.2.2.2.1 : (Nat → Int32)) (p459.2.2.2.2.2.2.2.2.2.2.2.2.2.2.2.2.2.2.2.1 : Int32) (p459.2.2.2.2.2.2.2.2.2.2.2.2.2.2.2.2.2.2.2.2.1 : Int32) (p459.2.2.2.2.2.2.2.2.2.2.2.2.2.2.2.2.2.2.2.2.2.1 : (Nat → Int32)) ((F_Mil_powerBelow (68 : Int32) (68 : Int32) (p459.2.1 : Int32) (p459.2.2.1 : Int32) (p459.2.2.2.1 : (Nat → Int32)) (p459.2.2.2.2.1 : Int32) (p459.2.2.2.2.2.1 : Int32) (p459.2.2.2.2.2.2.1 : (Nat → Int32)) t4_0 t4_1 t5_0 (p459.2.2.2.2.2.2.2.1 : Int32) (p459.2.2.2.2.2.2.2.2.1 : Int32) (p459.2.2.2.2.2.2.2.2.2.1 : (Nat → Int32)) t18_0 t18_1 t19_0 (p459.2.2.2.2.2.2.2.2.2.2.2.2.2.2.2.2.2.2.2.2.2.2.1 : Int32) (p459.2.2.2.2.2.2.2.2.2.2.2.2.2.2.2.2.2.2.2.2.2.2.2.1 : Int32) (p459.2.2.2.2.2.2.2.2.2.2.2.2.2.2.2.2.2.2.2.2.2.2.2.2 : (Nat → Int32))) : (Int32 × Int32 × (Nat → Int32) × Int32 × Int32 × (Nat → Int32) × Int32 × Int32 × (Nat → Int32) × Int32 × Int32 × (Nat → Int32) × Int32 × Int32 × (Nat → Int32)))) else (((F_NH_canHave (p459.1 : Int32)), (p459.2.1 : Int32), (p459.2.2.1 : Int32), (p459.2.2.2.1 : (Nat → Int32)), (p459.2.2.2.2.1 : Int32), (p459.2.2.2.2.2.1 : Int32), (p459.2.2.2.2.2.2.1 : (Nat → Int32)), t4_0, t4_1, t5_0, (p459.2.2.2.2.2.2.2.1 : Int32), (p459.2.2.2.2.2.2.2.2.1 : Int32), (p459.2.2.2.2.2.2.2.2.2.1 : (Nat → Int32)), (p459.2.2.2.2.2.2.2.2.2.2.1 : Int32), (p459.2.2.2.2.2.2.2.2.2.2.2.1 : Int32), (p459.2.2.2.2.2.2.2.2.2.2.2.2.1 : (Nat → Int32)), (p459.2.2.2.2.2.2.2.2.2.2.2.2.2.1 : Int32), (p459.2.2.2.2.2.2.2.2.2.2.2.2.2.2.1 : Int32), (p459.2.2.2.2.2.2.2.2.2.2.2.2.2.2.2.1 : (Nat → Int32)), (p459.2.2.2.2.2.2.2.2.2.2.2.2.2.2.2.2.1 : Int32), (p459.2.2.2.2.2.2.2.2.2.2.2.2.2.2.2.2.2.1 : Int32), (p459.2.2.2.2.2.2.2.2.2.2.2.2.2.2.2.2.2.2.1 : (Nat → Int32)), (p459.2.2.2.2.2.2.2.2.2.2.2.2.2.2.2.2.2.2.2.1 : Int32), (p459.2.2.2.2.2.2.2.2.2.2.2.2.2.2.2.2.2.2.2.2.1 : Int32), (p459.2.2.2.2.2.2.2.2.2.2.2.2.2.2.2.2.2.2.2.2.2.1 : (Nat → Int32)), (p459.2.2.2.2.2.2.2.2.2.2.2.2.2.2.2.2.2.2.2.2.2.2.1 : Int32), (p459.2.2.2.2.2.2.2.2.2.2.2.2.2.2.2.2.2.2.2.2.2.2.2.1 : Int32), (p459.2.2.2.2.2.2.2.2.2.2.2.2.2.2.2.2.2.2.2.2.2.2.2.2 : (Nat → Int32))))
def F_NH_powerModulo_at_J54 (x2 : Int32) (x3 : Int32) (x4 : Int32) (x5 : Int32) (t0_0 : Int32) (t0_1 : Int32) (t1_0 : (Nat → Int32)) (t2_0 : Int32) (t2_1 : Int32) (t3_0 : (Nat → Int32)) (t4_0 : Int32) (t4_1 : Int32) (t5_0 : (Nat → Int32)) (t6_0 : Int32) (t6_1 : Int32) (t7_0 : (Nat → Int32)) (t8_0 : Int32) (t8_1 : Int32) (t9_0 : (Nat → Int32)) (t10_0 : Int32) (t10_1 : Int32) (t11_0 : (Nat → Int32)) (t12_0 : Int32) (t12_1 : Int32) (t13_0 : (Nat → Int32)) (t14_0 : Int32) (t14_1 : Int32) (t15_0 : (Nat → Int32)) (t16_0 : Int32) (t16_1 : Int32) (t17_0 : (Nat → Int32)) (t18_0 : Int32) (t18_1 : Int32) (t19_0 : (Nat → Int32)) (lx88 : Int32) (lx140 : Int32) : Int32 × Int32 × Int32 × (Nat → Int32) × Int32 × Int32 × (Nat → Int32) × Int32 × Int32 × (Nat → Int32) × Int32 × Int32 × (Nat → Int32) × Int32 × Int32 × (Nat → Int32) × Int32 × Int32 × (Nat → Int32) × Int32 × Int32 × (Nat → Int32) × Int32 × Int32 × (Nat → Int32) × Int32 × Int32 × (Nat → Int32) := if (F_NH_canHave lx140) = (0 : Int32) then (if t18_1 = (0 : Int32) then (F_NH_powerModulo_at_c117 x2 x3 x4 x5 t0_0 t0_1 t1_0 t2_0 t2_1 t3_0 t4_0 t4_1 t5_0 t6_0 t6_1 t7_0 t8_0 t8_1 t9_0 t10_0 t10_1 t11_0 t12_0 t12_1 t13_0 t14_0 t14_1 t15_0 t16_0 t16_1 t17_0 t18_0 t18_1 t19_0 lx88 lx140 ((F_Mil_modulo_a (68 : Int32) (220 : Int32) t2_0 t2_1 t3_0 t16_0 t16_1 t17_0 t0_0 t0_1 t1_0) : (Int32 × Int32 × (Nat → Int32) × Int32 × Int32 × (Nat → Int32) × Int32 × Int32 × (Nat → Int32)))) else (F_NH_powerModulo_at_c85 x2 x3 x4 x5 t0_0 t0_1 t1_0 t2_0 t2_1 t3_0 t4_0 t4_1 t5_0 t6_0 t6_1 t7_0 t8_0 t8_1 t9_0 t10_0 t10_1 t11_0 t12_0 t12_1 t13_0 t14_0 t14_1 t15_0 t16_0 t16_1 t17_0 t18_0 t18_1 t19_0 lx88 lx140 ((F_Mil_inverse_a (68 : Int32) t0_0 t0_1 t1_0 t2_0 t2_1 t3_0 t6_0 t6_1 t7_0 t8_0 t8_1 t9_0 t10_0 t10_1 t11_0 t12_0 t12_1 t13_0 t14_0 t14_1 t15_0 t16_0 t16_1 t17_0) : (Int32 × Int32 × Int32 × (Nat → Int32) × Int32 × Int32 × (Nat → Int32) × Int32 × Int32 × (Nat → Int32) × Int32 × Int32 × (Nat → Int32) × Int32 × Int32 × (Nat → Int32) × Int32 × Int32 × (Nat → Int32) × Int32 × Int32 × (Nat → Int32) × Int32 × Int32 × (Nat → Int32))))) else (((F_NH_canHave lx140), t0_0, t0_1, t1_0, t2_0, t2_1, t3_0, t4_0, t4_1, t5_0, t6_0, t6_1, t7_0, t8_0, t8_1, t9_0, t10_0, t10_1, t11_0, t12_0, t12_1, t13_0, t14_0, t14_1, t15_0, t16_0, t16_1, t17_0))
def F_NH_powerModulo_at_J34 (x2 : Int32) (x3 : Int32) (x4 : Int32) (x5 : Int32) (t0_0 : Int32) (t0_1 : Int32) (t1_0 : (Nat → Int32)) (t2_0 : Int32) (t2_1 : Int32) (t3_0 : (Nat → Int32)) (t4_0 : Int32) (t4_1 : Int32) (t5_0 : (Nat → Int32)) (t6_0 : Int32) (t6_1 : Int32) (t7_0 : (Nat → Int32)) (t8_0 : Int32) (t8_1 : Int32) (t9_0 : (Nat → Int32)) (t10_0 : Int32) (t10_1 : Int32) (t11_0 : (Nat → Int32)) (t12_0 : Int32) (t12_1 : Int32) (t13_0 : (Nat → Int32)) (t14_0 : Int32) (t14_1 : Int32) (t15_0 : (Nat → Int32)) (t16_0 : Int32) (t16_1 : Int32) (t17_0 : (Nat → Int32)) (t18_0 : Int32) (t18_1 : Int32) (t19_0 : (Nat → Int32)) (lx88 : Int32) : Int32 × Int32 × Int32 × (Nat → Int32) × Int32 × Int32 × (Nat → Int32) × Int32 × Int32 × (Nat → Int32) × Int32 × Int32 × (Nat → Int32) × Int32 × Int32 × (Nat → Int32) × Int32 × Int32 × (Nat → Int32) × Int32 × Int32 × (Nat → Int32) × Int32 × Int32 × (Nat → Int32) × Int32 × Int32 × (Nat → Int32) := if (F_NH_need lx88) = (0 : Int32) then (if ((F_Big_sign (68 : Int32) t16_0 t16_1) : Int32) ≤ (0 : Int32) then (F_NH_powerModulo_at_J54 x2 x3 x4 x5 t0_0 t0_1 t1_0 t2_0 t2_1 t3_0 t4_0 t4_1 t5_0 t6_0 t6_1 t7_0 t8_0 t8_1 t9_0 t10_0 t10_1 t11_0 t12_0 t12_1 t13_0 t14_0 t14_1 t15_0 t16_0 t16_1 t17_0 t18_0 t18_1 t19_0 lx88 0) else (F_NH_powerModulo_at_J54 x2 x3 x4 x5 t0_0 t0_1 t1_0 t2_0 t2_1 t3_0 t4_0 t4_1 t5_0 t6_0 t6_1 t7_0 t8_0 t8_1 t9_0 t10_0 t10_1 t11_0 t12_0 t12_1 t13_0 t14_0 t14_1 t15_0 t16_0 t16_1 t17_0 t18_0 t18_1 t19_0 lx88 1)) else (((F_NH_need lx88), t0_0, t0_1, t1_0, t2_0, t2_1, t3_0, t4_0, t4_1, t5_0, t6_0, t6_1, t7_0, t8_0, t8_1, t9_0, t10_0, t10_1, t11_0, t12_0, t12_1, t13_0, t14_0, t14_1, t15_0, t16_0, t16_1, t17_0))
def F_NH_powerModulo_at_J33 (x2 : Int32) (x3 : Int32) (x4 : Int32) (x5 : Int32) (t0_0 : Int32) (t0_1 : Int32) (t1_0 : (Nat → Int32)) (t2_0 : Int32) (t2_1 : Int32) (t3_0 : (Nat → Int32)) (t4_0 : Int32) (t4_1 : Int32) (t5_0 : (Nat → Int32)) (t6_0 : Int32) (t6_1 : Int32) (t7_0 : (Nat → Int32)) (t8_0 : Int32) (t8_1 : Int32) (t9_0 : (Nat → Int32)) (t10_0 : Int32) (t10_1 : Int32) (t11_0 : (Nat → Int32)) (t12_0 : Int32) (t12_1 : Int32) (t13_0 : (Nat → Int32)) (t14_0 : Int32) (t14_1 : Int32) (t15_0 : (Nat → Int32)) (t16_0 : Int32) (t16_1 : Int32) (t17_0 : (Nat → Int32)) (t18_0 : Int32) (t18_1 : Int32) (t19_0 : (Nat → Int32)) : Int32 × Int32 × Int32 × (Nat → Int32) × Int32 × Int32 × (Nat → Int32) × Int32 × Int32 × (Nat → Int32) × Int32 × Int32 × (Nat → Int32) × Int32 × Int32 × (Nat → Int32) × Int32 × Int32 × (Nat → Int32) × Int32 × Int32 × (Nat → Int32) × Int32 × Int32 × (Nat → Int32) × Int32 × Int32 × (Nat → Int32) := F_NH_powerModulo_at_J34 x2 x3 x4 x5 t0_0 t0_1 t1_0 t2_0 t2_1 t3_0 t4_0 t4_1 t5_0 t6_0 t6_1 t7_0 t8_0 t8_1 t9_0 t10_0 t10_1 t11_0 t12_0 t12_1 t13_0 t14_0 t14_1 t15_0 t16_0 t16_1 t17_0 t18_0 t18_1 t19_0 0
def F_NH_powerModulo_at (x2 : Int32) (x3 : Int32) (x4 : Int32) (x5 : Int32) (t0_0 : Int32) (t0_1 : Int32) (t1_0 : (Nat → Int32)) (t2_0 : Int32) (t2_1 : Int32) (t3_0 : (Nat → Int32)) (t4_0 : Int32) (t4_1 : Int32) (t5_0 : (Nat → Int32)) (t6_0 : Int32) (t6_1 : Int32) (t7_0 : (Nat → Int32)) (t8_0 : Int32) (t8_1 : Int32) (t9_0 : (Nat → Int32)) (t10_0 : Int32) (t10_1 : Int32) (t11_0 : (Nat → Int32)) (t12_0 : Int32) (t12_1 : Int32) (t13_0 : (Nat → Int32)) (t14_0 : Int32) (t14_1 : Int32) (t15_0 : (Nat → Int32)) (t16_0 : Int32) (t16_1 : Int32) (t17_0 : (Nat → Int32)) (t18_0 : Int32) (t18_1 : Int32) (t19_0 : (Nat → Int32)) : Int32 × Int32 × Int32 × (Nat → Int32) × Int32 × Int32 × (Nat → Int32) × Int32 × Int32 × (Nat → Int32) × Int32 × Int32 × (Nat → Int32) × Int32 × Int32 × (Nat → Int32) × Int32 × Int32 × (Nat → Int32) × Int32 × Int32 × (Nat → Int32) × Int32 × Int32 × (Nat → Int32) × Int32 × Int32 × (Nat → Int32) := if ((F_NH_isRegister x2) : Int32) = (0 : Int32) then (F_NH_powerModulo_at_J33 x2 x3 x4 x5 t0_0 t0_1 t1_0 t2_0 t2_1 t3_0 t4_0 t4_1 t5_0 t6_0 t6_1 t7_0 t8_0 t8_1 t9_0 t10_0 t10_1 t11_0 t12_0 t12_1 t13_0 t14_0 t14_1 t15_0 t16_0 t16_1 t17_0 t18_0 t18_1 t19_0) else (if ((F_NH_isRegister x3) : Int32) = (0 : Int32) then (F_NH_powerModulo_at_J33 x2 x3 x4 x5 t0_0 t0_1 t1_0 t2_0 t2_1 t3_0 t4_0 t4_1 t5_0 t6_0 t6_1 t7_0 t8_0 t8_1 t9_0 t10_0 t10_1 t11_0 t12_0 t12_1 t13_0 t14_0 t14_1 t15_0 t16_0 t16_1 t17_0 t18_0 t18_1 t19_0) else (if ((F_NH_isRegister x4) : Int32) = (0 : Int32) then (F_NH_powerModulo_at_J33 x2 x3 x4 x5 t0_0 t0_1 t1_0 t2_0 t2_1 t3_0 t4_0 t4_1 t5_0 t6_0 t6_1 t7_0 t8_0 t8_1 t9_0 t10_0 t10_1 t11_0 t12_0 t12_1 t13_0 t14_0 t14_1 t15_0 t16_0 t16_1 t17_0 t18_0 t18_1 t19_0) else (if ((F_NH_isRegister x5) : Int32) = (0 : Int32) then (F_NH_powerModulo_at_J33 x2 x3 x4 x5 t0_0 t0_1 t1_0 t2_0 t2_1 t3_0 t4_0 t4_1 t5_0 t6_0 t6_1 t7_0 t8_0 t8_1 t9_0 t10_0 t10_1 t11_0 t12_0 t12_1 t13_0 t14_0 t14_1 t15_0 t16_0 t16_1 t17_0 t18_0 t18_1 t19_0) else (F_NH_powerModulo_at_J34 x2 x3 x4 x5 t0_0 t0_1 t1_0 t2_0 t2_1 t3_0 t4_0 t4_1 t5_0 t6_0 t6_1 t7_0 t8_0 t8_1 t9_0 t10_0 t10_1 t11_0 t12_0 t12_1 t13_0 t14_0 t14_1 t15_0 t16_0 t16_1 t17_0 t18_0 t18_1 t19_0 1))))
def S_NH_powerModulo_at_c142 (x2 : Int32) (x3 : Int32) (x4 : Int32) (x5 : Int32) (t0_0 : Int32) (t0_1 : Int32) (t1_0 : (Nat → Int32)) (t2_0 : Int32) (t2_1 : Int32) (t3_0 : (Nat → Int32)) (t4_0 : Int32) (t4_1 : Int32) (t5_0 : (Nat → Int32)) (t6_0 : Int32) (t6_1 : Int32) (t7_0 : (Nat → Int32)) (t8_0 : Int32) (t8_1 : Int32) (t9_0 : (Nat → Int32)) (t10_0 : Int32) (t10_1 : Int32) (t11_0 : (Nat → Int32)) (t12_0 : Int32) (t12_1 : Int32) (t13_0 : (Nat → Int32)) (t14_0 : Int32) (t14_1 : Int32) (t15_0 : (Nat → Int32)) (t16_0 : Int32) (t16_1 : Int32) (t17_0 : (Nat → Int32)) (t18_0 : Int32) (t18_1 : Int32) (t19_0 : (Nat → Int32)) (lx88 : Int32) (lx140 : Int32) (p229 : (Int32 × Int32 × (Nat → Int32) × Int32 × Int32 × (Nat → Int32) × Int32 × Int32 × (Nat → Int32))) (p300 : (Int32 × Int32 × (Nat → Int32) × Int32 × Int32 × (Nat → Int32) × Int32 × Int32 × (Nat → Int32) × Int32 × Int32 × (Nat → Int32) × Int32 × Int32 × (Nat → Int32))) (y255 : Int32) (y256 : Int32) (f257 : (Nat → Int32)) (y260 : Int32) (y261 : Int32) (f262 : (Nat → Int32)) (y265 : Int32) (y266 : Int32) (f267 : (Nat → Int32)) (y270 : Int32) (y271 : Int32) (f272 : (Nat → Int32)) (p335 : (Int32 × Int32 × Int32 × (Nat → Int32))) : Prop := if p335.1 = (0 : Int32) then (True) else (True)
def S_NH_powerModulo_at_c136 (x2 : Int32) (x3 : Int32) (x4 : Int32) (x5 : Int32) (t0_0 : Int32) (t0_1 : Int32) (t1_0 : (Nat → Int32)) (t2_0 : Int32) (t2_1 : Int32) (t3_0 : (Nat → Int32)) (t4_0 : Int32) (t4_1 : Int32) (t5_0 : (Nat → Int32)) (t6_0 : Int32) (t6_1 : Int32) (t7_0 : (Nat → Int32)) (t8_0 : Int32) (t8_1 : Int32) (t9_0 : (Nat → Int32)) (t10_0 : Int32) (t10_1 : Int32) (t11_0 : (Nat → Int32)) (t12_0 : Int32) (t12_1 : Int32) (t13_0 : (Nat → Int32)) (t14_0 : Int32) (t14_1 : Int32) (t15_0 : (Nat → Int32)) (t16_0 : Int32) (t16_1 : Int32) (t17_0 : (Nat → Int32)) (t18_0 : Int32) (t18_1 : Int32) (t19_0 : (Nat → Int32)) (lx88 : Int32) (lx140 : Int32) (p229 : (Int32 × Int32 × (Nat → Int32) × Int32 × Int32 × (Nat → Int32) × Int32 × Int32 × (Nat → Int32))) (p300 : (Int32 × Int32 × (Nat → Int32) × Int32 × Int32 × (Nat → Int32) × Int32 × Int32 × (Nat → Int32) × Int32 × Int32 × (Nat → Int32) × Int32 × Int32 × (Nat → Int32))) : Prop := (True ∧ S_NH_keepWhole x5 (p300.1 : Int32) (p300.2.1 : Int32) (p300.2.2.1 : (Nat → Int32)) (p300.2.2.2.2.2.2.2.2.2.2.2.2.1 : Int32) (p300.2.2.2.2.2.2.2.2.2.2.2.2.2.1 : Int32) (p300.2.2.2.2.2.2.2.2.2.2.2.2.2.2 : (Nat → Int32))) ∧ (S_NH_powerModulo_at_c142 x2 x3 x4 x5 t0_0 t0_1 t1_0 t2_0 t2_1 t3_0 t4_0 t4_1 t5_0 t6_0 t6_1 t7_0 t8_0 t8_1 t9_0 t10_0 t10_1 t11_0 t12_0 t12_1 t13_0 t14_0 t14_1 t15_0 t16_0 t16_1 t17_0 t18_0 t18_1 t19_0 lx88 lx140 p229 p300 (p300.1 : Int32) (p300.2.1 : Int32) (p300.2.2.1 : (Nat → Int32)) (p300.2.2.2.1 : Int32) (p300.2.2.2.2.1 : Int32) (p300.2.2.2.2.2.1 : (Nat → Int32)) (p300.2.2.2.2.2.2.1 : Int32) (p300.2.2.2.2.2.2.2.1 : Int32) (p300.2.2.2.2.2.2.2.2.1 : (Nat → Int32)) (p300.2.2.2.2.2.2.2.2.2.1 : Int32) (p300.2.2.2.2.2.2.2.2.2.2.1 : Int32) (p300.2.2.2.2.2.2.2.2.2.2.2.1 : (Nat → Int32)) ((F_NH_keepWhole x5 (p300.1 : Int32) (p300.2.1 : Int32) (p300.2.2.1 : (Nat → Int32)) (p300.2.2.2.2.2.2.2.2.2.2.2.2.1 : Int32) (p300.2.2.2.2.2.2.2.2.2.2.2.2.2.1 : Int32) (p300.2.2.2.2.2.2.2.2.2.2.2.2.2.2 : (Nat → Int32))) : (Int32 × Int32 × Int32 × (Nat → Int32))))
def S_NH_powerModulo_at_c117 (x2 : Int32) (x3 : Int32) (x4 : Int32) (x5 : Int32) (t0_0 : Int32) (t0_1 : Int32) (t1_0 : (Nat → Int32)) (t2_0 : Int32) (t2_1 : Int32) (t3_0 : (Nat → Int32)) (t4_0 : Int32) (t4_1 : Int32) (t5_0 : (Nat → Int32)) (t6_0 : Int32) (t6_1 : Int32) (t7_0 : (Nat → Int32)) (t8_0 : Int32) (t8_1 : Int32) (t9_0 : (Nat → Int32)) (t10_0 : Int32) (t10_1 : Int32) (t11_0 : (Nat → Int32)) (t12_0 : Int32) (t12_1 : Int32) (t13_0 : (Nat → Int32)) (t14_0 : Int32) (t14_1 : Int32) (t15_0 : (Nat → Int32)) (t16_0 : Int32) (t16_1 : Int32) (t17_0 : (Nat → Int32)) (t18_0 : Int32) (t18_1 : Int32) (t19_0 : (Nat → Int32)) (lx88 : Int32) (lx140 : Int32) (p229 : (Int32 × Int32 × (Nat → Int32) × Int32 × Int32 × (Nat → Int32) × Int32 × Int32 × (Nat → Int32))) : Prop := (True ∧ S_Mil_powerBelow (68 : Int32) (68 : Int32) (p229.2.2.2.2.2.2.1 : Int32) (p229.2.2.2.2.2.2.2.1 : Int32) (p229.2.2.2.2.2.2.2.2 : (Nat → Int32)) (p229.1 : Int32) (p229.2.1 : Int32) (p229.2.2.1 : (Nat → Int32)) t4_0 t4_1 t5_0 t6_0 t6_1 t7_0 t18_0 t18_1 t19_0 (p229.2.2.2.1 : Int32) (p229.2.2.2.2.1 : Int32) (p229.2.2.2.2.2.1 : (Nat → Int32))) ∧ (S_NH_powerModulo_at_c136 x2 x3 x4 x5 t0_0 t0_1 t1_0 t2_0 t2_1 t3_0 t4_0 t4_1 t5_0 t6_0 t6_1 t7_0 t8_0 t8_1 t9_0 t10_0 t10_1 t11_0 t12_0 t12_1 t13_0 t14_0 t14_1 t15_0 t16_0 t16_1 t17_0 t18_0 t18_1 t19_0 lx88 lx140 p229 ((F_Mil_powerBelow (68 : Int32) (68 : Int32) (p229.2.2.2.2.2.2.1 : Int32) (p229.2.2.2.2.2.2.2.1 : Int32) (p229.2.2.2.2.2.2.2.2 : (Nat → Int32)) (p229.1 : Int32) (p229.2.1 : Int32) (p229.2.2.1 : (Nat → Int32)) t4_0 t4_1 t5_0 t6_0 t6_1 t7_0 t18_0 t18_1 t19_0 (p229.2.2.2.1 : Int32) (p229.2.2.2.2.1 : Int32) (p229.2.2.2.2.2.1 : (Nat → Int32))) : (Int32 × Int32 × (Nat → Int32) × Int32 × Int32 × (Nat → Int32) × Int32 × Int32 × (Nat → Int32) × Int32 × Int32 × (Nat → Int32) × Int32 × Int32 × (Nat → Int32))))
def S_NH_powerModulo_at_c142_8 (x2 : Int32) (x3 : Int32) (x4 : Int32) (x5 : Int32) (t0_0 : Int32) (t0_1 : Int32) (t1_0 : (Nat → Int32)) (t2_0 : Int32) (t2_1 : Int32) (t3_0 : (Nat → Int32)) (t4_0 : Int32) (t4_1 : Int32) (t5_0 : (Nat → Int32)) (t6_0 : Int32) (t6_1 : Int32) (t7_0 : (Nat → Int32)) (t8_0 : Int32) (t8_1 : Int32) (t9_0 : (Nat → Int32)) (t10_0 : Int32) (t10_1 : Int32) (t11_0 : (Nat → Int32)) (t12_0 : Int32) (t12_1 : Int32) (t13_0 : (Nat → Int32)) (t14_0 : Int32) (t14_1 : Int32) (t15_0 : (Nat → Int32)) (t16_0 : Int32) (t16_1 : Int32) (t17_0 : (Nat → Int32)) (t18_0 : Int32) (t18_1 : Int32) (t19_0 : (Nat → Int32)) (lx88 : Int32) (lx140 : Int32) (p459 : (Int32 × Int32 × Int32 × (Nat → Int32) × Int32 × Int32 × (Nat → Int32) × Int32 × Int32 × (Nat → Int32) × Int32 × Int32 × (Nat → Int32) × Int32 × Int32 × (Nat → Int32) × Int32 × Int32 × (Nat → Int32) × Int32 × Int32 × (Nat → Int32) × Int32 × Int32 × (Nat → Int32))) (y396 : Int32) (y397 : Int32) (f398 : (Nat → Int32)) (y401 : Int32) (y402 : Int32) (f403 : (Nat → Int32)) (y406 : Int32) (y407 : Int32) (f408 : (Nat → Int32)) (y411 : Int32) (y412 : Int32) (f413 : (Nat → Int32)) (p555 : (Int32 × Int32 × (Nat → Int32) × Int32 × Int32 × (Nat → Int32) × Int32 × Int32 × (Nat → Int32) × Int32 × Int32 × (Nat → Int32) × Int32 × Int32 × (Nat → Int32))) (y510 : Int32) (y511 : Int32) (f512 : (Nat → Int32)) (y515 : Int32) (y516 : Int32) (f517 : (Nat → Int32)) (y520 : Int32) (y521 : Int32) (f522 : (Nat → Int32)) (y525 : Int32) (y526 : Int32) (f527 : (Nat → Int32)) (p590 : (Int32 × Int32 × Int32 × (Nat → Int32))) : Prop := if p590.1 = (0 : Int32) then (True) else (True)
def S_NH_powerModulo_at_c136_7 (x2 : Int32) (x3 : Int32) (x4 : Int32) (x5 : Int32) (t0_0 : Int32) (t0_1 : Int32) (t1_0 : (Nat → Int32)) (t2_0 : Int32) (t2_1 : Int32) (t3_0 : (Nat → Int32)) (t4_0 : Int32) (t4_1 : Int32) (t5_0 : (Nat → Int32)) (t6_0 : Int32) (t6_1 : Int32) (t7_0 : (Nat → Int32)) (t8_0 : Int32) (t8_1 : Int32) (t9_0 : (Nat → Int32)) (t10_0 : Int32) (t10_1 : Int32) (t11_0 : (Nat → Int32)) (t12_0 : Int32) (t12_1 : Int32) (t13_0 : (Nat → Int32)) (t14_0 : Int32) (t14_1 : Int32) (t15_0 : (Nat → Int32)) (t16_0 : Int32) (t16_1 : Int32) (t17_0 : (Nat → Int32)) (t18_0 : Int32) (t18_1 : Int32) (t19_0 : (Nat → Int32)) (lx88 : Int32) (lx140 : Int32) (p459 : (Int32 × Int32 × Int32 × (Nat → Int32) × Int32 × Int32 × (Nat → Int32) × Int32 × Int32 × (Nat → Int32) × Int32 × Int32 × (Nat → Int32) × Int32 × Int32 × (Nat → Int32) × Int32 × Int32 × (Nat → Int32) × Int32 × Int32 × (Nat → Int32) × Int32 × Int32 × (Nat → Int32))) (y396 : Int32) (y397 : Int32) (f398 : (Nat → Int32)) (y401 : Int32) (y402 : Int32) (f403 : (Nat → Int32)) (y406 : Int32) (y407 : Int32) (f408 : (Nat → Int32)) (y411 : Int32) (y412 : Int32) (f413 : (Nat → Int32)) (p555 : (Int32 × Int32 × (Nat → Int32) × Int32 × Int32 × (Nat → Int32) × Int32 × Int32 × (Nat → Int32) × Int32 × Int32 × (Nat → Int32) × Int32 × Int32 × (Nat → Int32))) : Prop := (True ∧ S_NH_keepWhole x5 (p555.1 : Int32) (p555.2.1 : Int32) (p555.2.2.1 : (Nat → Int32)) (p555.2.2.2.2.2.2.2.2.2.2.2.2.1 : Int32) (p555.2.2.2.2.2.2.2.2.2.2.2.2.2.1 : Int32) (p555.2.2.2.2.2.2.2.2.2.2.2.2.2.2 : (Nat → Int32))) ∧ (S_NH_powerModulo_at_c142_8 x2 x3 x4 x5 t0_0 t0_1 t1_0 t2_0 t2_1 t3_0 t4_0 t4_1 t5_0 t6_0 t6_1 t7_0 t8_0 t8_1 t9_0 t10_0 t10_1 t11_0 t12_0 t12_1 t13_0 t14_0 t14_1 t15_0 t16_0 t16_1 t17_0 t18_0 t18_1 t19_0 lx88 lx140 p459 y396 y397 f398 y401 y402 f403 y406 y407 f408 y411 y412 f413 p555 (p555.1 : Int32) (p555.2.1 : Int32) (p555.2.2.1 : (Nat → Int32)) (p555.2.2.2.1 : Int32) (p555.2.2.2.2.1 : Int32) (p555.2.2.2.2.2.1 : (Nat → Int32)) (p555.2.2.2.2.2.2.1 : Int32) (p555.2.2.2.2.2.2.2.1 : Int32) (p555.2.2.2.2.2.2.2.2.1 : (Nat → Int32)) (p555.2.2.2.2.2.2.2.2.2.1 : Int32) (p555.2.2.2.2.2.2.2.2.2.2.1 : Int32) (p555.2.2.2.2.2.2.2.2.2.2.2.1 : (Nat → Int32)) ((F_NH_keepWhole x5 (p555.1 : Int32) (p555.2.1 : Int32) (p555.2.2.1 : (Nat → Int32)) (p555.2.2.2.2.2.2.2.2.2.2.2.2.1 : Int32) (p555.2.2.2.2.2.2.2.2.2.2.2.2.2.1 : Int32) (p555.2.2.2.2.2.2.2.2.2.2.2.2.2.2 : (Nat → Int32))) : (Int32 × Int32 × Int32 × (Nat → Int32))))
def S_NH_powerModulo_at_c85 (x2 : Int32) (x3 : Int32) (x4 : Int32) (x5 : Int32) (t0_0 : Int32) (t0_1 : Int32) (t1_0 : (Nat → Int32)) (t2_0 : Int32) (t2_1 : Int32) (t3_0 : (Nat → Int32)) (t4_0 : Int32) (t4_1 : Int32) (t5_0 : (Nat → Int32)) (t6_0 : Int32) (t6_1 : Int32) (t7_0 : (Nat → Int32)) (t8_0 : Int32) (t8_1 : Int32) (t9_0 : (Nat → Int32)) (t10_0 : Int32) (t10_1 : Int32) (t11_0 : (Nat → Int32)) (t12_0 : Int32) (t12_1 : Int32) (t13_0 : (Nat → Int32)) (t14_0 : Int32) (t14_1 : Int32) (t15_0 : (Nat → Int32)) (t16_0 : Int32) (t16_1 : Int32) (t17_0 : (Nat → Int32)) (t18_0 : Int32) (t18_1 : Int32) (t19_0 : (Nat → Int32)) (lx88 : Int32) (lx140 : Int32) (p459 : (Int32 × Int32 × Int32 × (Nat → Int32) × Int32 × Int32 × (Nat → Int32) × Int32 × Int32 × (Nat → Int32) × Int32 × Int32 × (Nat → Int32) × Int32 × Int32 × (Nat → Int32) × Int32 × Int32 × (Nat → Int32) × Int32 × Int32 × (Nat → Int32) × Int32 × Int32 × (Nat → Int32))) : Prop := if (F_NH_canHave (p459.1 : Int32)) = (0 : Int32) then ((True ∧ S_Mil_powerBelow (68 : Int32) (68 : Int32) (p459.2.1 : Int32) (p459.2.2.1 : Int32) (p459.2.2.2.1 : (Nat → Int32)) (p459.2.2.2.2.1 : Int32) (p459.2.2.2.2.2.1 : Int32) (p459.2.2.2.2.2.2.1 : (Nat → Int32)) t4_0 t4_1 t5_0 (p459.2.2.2.2.2.2.2.1 : Int32) (p459.2.2.2.2.2.2.2.2.1 : Int32) (p459.2.2.2.2.2.2.2.2.2.1 : (Nat → Int32)) t18_0 t18_1 t19_0 (p459.2.2.2.2.2.2.2.2.2.2.2.2.2.2.2.2.2.2.2.2.2.2.1 : Int32) (p459.2.2.2.2.2.2.2.2.2.2.2.2.2.2.2.2.2.2.2.2.2.2.2.1 : Int32) (p459.2.2.2.2.2.2.2.2.2.2.2.2.2.2.2.2.2.2.2.2.2.2.2.2 : (Nat → Int32))) ∧ (S_NH_powerModulo_at_c136_7 x2 x3 x4 x5 t0_0 t0_1 t1_0 t2_0 t2_1 t3_0 t4_0 t4_1 t5_0 t6_0 t6_1 t7_0 t8_0 t8_1 t9_0 t10_0 t10_1 t11_0 t12_0 t12_1 t13_0 t14_0 t14_1 t15_0 t16_0 t16_1 t17_0 t18_0 t18_1 t19_0 lx88 lx140 p459 (p459.2.2.2.2.2.2.2.2.2.2.1 : Int32) (p459.2.2.2.2.2.2.2.2.2.2.2.1 : Int32) (p459.2.2.2.2.2.2.2.2.2.2.2.2.1 : (Nat → Int32)) (p459.2.2.2.2.2.2.2.2.2.2.2.2.2.1 : Int32) (p459.2.2.2.2.2.2.2.2.2.2.2.2.2.2.1 : Int32) (p459.2.2.2.2.2.2.2.2.2.2.2.2.2.2.2.1 : (Nat → Int32)) (p459.2.2.2.2.2.2.2.2.2.2.2.2.2.2.2.2.1 : Int32) (p459.2.2.2.2.2.2.2.2.2.2.2.2.2.2.2.2.2.1 : Int32) (p459.2.2.2.2.2.2.2.2.2.2.2.2.2.2.2.2.2.2.1 : (Nat → Int32)) (p459.2.2.2.2.2.2.2.2.2.2.2.2.2.2.2.2.2.2.2.1 : Int32) (p459.2.2.2.2.2.2.2.2.2.2.2.2.2.2.2.2.2.2.2.2.1 : Int32) (p459.2.2.2.2.2.2.2.2.2.2.2.2.2.2.2.2.2.2.2.2.2.1 : (Nat → Int32)) ((F_Mil_powerBelow (68 : Int32) (68 : Int32) (p459.2.1 : Int32) (p459.2.2.1 : Int32) (p459.2.2.2.1 : (Nat → Int32)) (p459.2.2.2.2.1 : Int32) (p459.2.2.2.2.2.1 : Int32) (p459.2.2.2.2.2.2.1 : (Nat → Int32)) t4_0 t4_1 t5_0 (p459.2.2.2.2.2.2.2.1 : Int32) (p459.2.2.2.2.2.2.2.2.1 : Int32) (p459.2.2.2.2.2.2.2.2.2.1 : (Nat → Int32)) t18_0 t18_1 t19_0 (p459.2.2.2.2.2.2.2.2.2.2.2.2.2.2.2.2.2.2.2.2.2.2.1 : Int32) (p459.2.2.2.2.2.2.2.2.2.2.2.2.2.2.2.2.2.2.2.2.2.2.2.1 : Int32) (p459.2.2.2.2.2.2.2.2.2.2.2.2.2.2.2.2.2.2.2.2.2.2.2.2 : (Nat → Int32))) : (Int32 × Int32 × (Nat → Int32) × Int32 × Int32 × (Nat → Int32) × Int32 × Int32 × (Nat → Int32) × Int32 × Int32 × (Nat → Int32) × Int32 × Int32 × (Nat → Int32))))) else (True)
def S_NH_powerModulo_at_J54 (x2 : Int32) (x3 : Int32) (x4 : Int32) (x5 : Int32) (t0_0 : Int32) (t0_1 : Int32) (t1_0 : (Nat → Int32)) (t2_0 : Int32) (t2_1 : Int32) (t3_0 : (Nat → Int32)) (t4_0 : Int32) (t4_1 : Int32) (t5_0 : (Nat → Int32)) (t6_0 : Int32) (t6_1 : Int32) (t7_0 : (Nat → Int32)) (t8_0 : Int32) (t8_1 : Int32) (t9_0 : (Nat → Int32)) (t10_0 : Int32) (t10_1 : Int32) (t11_0 : (Nat → Int32)) (t12_0 : Int32) (t12_1 : Int32) (t13_0 : (Nat → Int32)) (t14_0 : Int32) (t14_1 : Int32) (t15_0 : (Nat → Int32)) (t16_0 : Int32) (t16_1 : Int32) (t17_0 : (Nat → Int32)) (t18_0 : Int32) (t18_1 : Int32) (t19_0 : (Nat → Int32)) (lx88 : Int32) (lx140 : Int32) : Prop := if (F_NH_canHave lx140) = (0 : Int32) then ((0 ≤ x3.toInt) ∧ ((x3.toInt ≤ 9) ∧ (if t18_1 = (0 : Int32) then ((0 ≤ x2.toInt) ∧ ((x2.toInt ≤ 9) ∧ ((True ∧ S_Mil_modulo_a (68 : Int32) (220 : Int32) t2_0 t2_1 t3_0 t16_0 t16_1 t17_0 t0_0 t0_1 t1_0) ∧ (S_NH_powerModulo_at_c117 x2 x3 x4 x5 t0_0 t0_1 t1_0 t2_0 t2_1 t3_0 t4_0 t4_1 t5_0 t6_0 t6_1 t7_0 t8_0 t8_1 t9_0 t10_0 t10_1 t11_0 t12_0 t12_1 t13_0 t14_0 t14_1 t15_0 t16_0 t16_1 t17_0 t18_0 t18_1 t19_0 lx88 lx140 ((F_Mil_modulo_a (68 : Int32) (220 : Int32) t2_0 t2_1 t3_0 t16_0 t16_1 t17_0 t0_0 t0_1 t1_0) : (Int32 × Int32 × (Nat → Int32) × Int32 × Int32 × (Nat → Int32) × Int32 × Int32 × (Nat → Int32))))))) else ((0 ≤ x2.toInt) ∧ ((x2.toInt ≤ 9) ∧ ((True ∧ S_Mil_inverse_a (68 : Int32) t0_0 t0_1 t1_0 t2_0 t2_1 t3_0 t6_0 t6_1 t7_0 t8_0 t8_1 t9_0 t10_0 t10_1 t11_0 t12_0 t12_1 t13_0 t14_0 t14_1 t15_0 t16_0 t16_1 t17_0) ∧ (S_NH_powerModulo_at_c85 x2 x3 x4 x5 t0_0 t0_1 t1_0 t2_0 t2_1 t3_0 t4_0 t4_1 t5_0 t6_0 t6_1 t7_0 t8_0 t8_1 t9_0 t10_0 t10_1 t11_0 t12_0 t12_1 t13_0 t14_0 t14_1 t15_0 t16_0 t16_1 t17_0 t18_0 t18_1 t19_0 lx88 lx140 ((F_Mil_inverse_a (68 : Int32) t0_0 t0_1 t1_0 t2_0 t2_1 t3_0 t6_0 t6_1 t7_0 t8_0 t8_1 t9_0 t10_0 t10_1 t11_0 t12_0 t12_1 t13_0 t14_0 t14_1 t15_0 t16_0 t16_1 t17_0) : (Int32 × Int32 × Int32 × (Nat → Int32) × Int32 × Int32 × (Nat → Int32) × Int32 × Int32 × (Nat → Int32) × Int32 × Int32 × (Nat → Int32) × Int32 × Int32 × (Nat → Int32) × Int32 × Int32 × (Nat → Int32) × Int32 × Int32 × (Nat → Int32) × Int32 × Int32 × (Nat → Int32)))))))))) else (True)
def S_NH_powerModulo_at_J34 (x2 : Int32) (x3 : Int32) (x4 : Int32) (x5 : Int32) (t0_0 : Int32) (t0_1 : Int32) (t1_0 : (Nat → Int32)) (t2_0 : Int32) (t2_1 : Int32) (t3_0 : (Nat → Int32)) (t4_0 : Int32) (t4_1 : Int32) (t5_0 : (Nat → Int32)) (t6_0 : Int32) (t6_1 : Int32) (t7_0 : (Nat → Int32)) (t8_0 : Int32) (t8_1 : Int32) (t9_0 : (Nat → Int32)) (t10_0 : Int32) (t10_1 : Int32) (t11_0 : (Nat → Int32)) (t12_0 : Int32) (t12_1 : Int32) (t13_0 : (Nat → Int32)) (t14_0 : Int32) (t14_1 : Int32) (t15_0 : (Nat → Int32)) (t16_0 : Int32) (t16_1 : Int32) (t17_0 : (Nat → Int32)) (t18_0 : Int32) (t18_1 : Int32) (t19_0 : (Nat → Int32)) (lx88 : Int32) : Prop := if (F_NH_need lx88) = (0 : Int32) then ((0 ≤ x4.toInt) ∧ ((x4.toInt ≤ 9) ∧ (if ((F_Big_sign (68 : Int32) t16_0 t16_1) : Int32) ≤ (0 : Int32) then (S_NH_powerModulo_at_J54 x2 x3 x4 x5 t0_0 t0_1 t1_0 t2_0 t2_1 t3_0 t4_0 t4_1 t5_0 t6_0 t6_1 t7_0 t8_0 t8_1 t9_0 t10_0 t10_1 t11_0 t12_0 t12_1 t13_0 t14_0 t14_1 t15_0 t16_0 t16_1 t17_0 t18_0 t18_1 t19_0 lx88 0) else (S_NH_powerModulo_at_J54 x2 x3 x4 x5 t0_0 t0_1 t1_0 t2_0 t2_1 t3_0 t4_0 t4_1 t5_0 t6_0 t6_1 t7_0 t8_0 t8_1 t9_0 t10_0 t10_1 t11_0 t12_0 t12_1 t13_0 t14_0 t14_1 t15_0 t16_0 t16_1 t17_0 t18_0 t18_1 t19_0 lx88 1)))) else (True)
def S_NH_powerModulo_at_J33 (x2 : Int32) (x3 : Int32) (x4 : Int32) (x5 : Int32) (t0_0 : Int32) (t0_1 : Int32) (t1_0 : (Nat → Int32)) (t2_0 : Int32) (t2_1 : Int32) (t3_0 : (Nat → Int32)) (t4_0 : Int32) (t4_1 : Int32) (t5_0 : (Nat → Int32)) (t6_0 : Int32) (t6_1 : Int32) (t7_0 : (Nat → Int32)) (t8_0 : Int32) (t8_1 : Int32) (t9_0 : (Nat → Int32)) (t10_0 : Int32) (t10_1 : Int32) (t11_0 : (Nat → Int32)) (t12_0 : Int32) (t12_1 : Int32) (t13_0 : (Nat → Int32)) (t14_0 : Int32) (t14_1 : Int32) (t15_0 : (Nat → Int32)) (t16_0 : Int32) (t16_1 : Int32) (t17_0 : (Nat → Int32)) (t18_0 : Int32) (t18_1 : Int32) (t19_0 : (Nat → Int32)) : Prop := S_NH_powerModulo_at_J34 x2 x3 x4 x5 t0_0 t0_1 t1_0 t2_0 t2_1 t3_0 t4_0 t4_1 t5_0 t6_0 t6_1 t7_0 t8_0 t8_1 t9_0 t10_0 t10_1 t11_0 t12_0 t12_1 t13_0 t14_0 t14_1 t15_0 t16_0 t16_1 t17_0 t18_0 t18_1 t19_0 0
def S_NH_powerModulo_at (x2 : Int32) (x3 : Int32) (x4 : Int32) (x5 : Int32) (t0_0 : Int32) (t0_1 : Int32) (t1_0 : (Nat → Int32)) (t2_0 : Int32) (t2_1 : Int32) (t3_0 : (Nat → Int32)) (t4_0 : Int32) (t4_1 : Int32) (t5_0 : (Nat → Int32)) (t6_0 : Int32) (t6_1 : Int32) (t7_0 : (Nat → Int32)) (t8_0 : Int32) (t8_1 : Int32) (t9_0 : (Nat → Int32)) (t10_0 : Int32) (t10_1 : Int32) (t11_0 : (Nat → Int32)) (t12_0 : Int32) (t12_1 : Int32) (t13_0 : (Nat → Int32)) (t14_0 : Int32) (t14_1 : Int32) (t15_0 : (Nat → Int32)) (t16_0 : Int32) (t16_1 : Int32) (t17_0 : (Nat → Int32)) (t18_0 : Int32) (t18_1 : Int32) (t19_0 : (Nat → Int32)) : Prop := if ((F_NH_isRegister x2) : Int32) = (0 : Int32) then (S_NH_powerModulo_at_J33 x2 x3 x4 x5 t0_0 t0_1 t1_0 t2_0 t2_1 t3_0 t4_0 t4_1 t5_0 t6_0 t6_1 t7_0 t8_0 t8_1 t9_0 t10_0 t10_1 t11_0 t12_0 t12_1 t13_0 t14_0 t14_1 t15_0 t16_0 t16_1 t17_0 t18_0 t18_1 t19_0) else (if ((F_NH_isRegister x3) : Int32) = (0 : Int32) then (S_NH_powerModulo_at_J33 x2 x3 x4 x5 t0_0 t0_1 t1_0 t2_0 t2_1 t3_0 t4_0 t4_1 t5_0 t6_0 t6_1 t7_0 t8_0 t8_1 t9_0 t10_0 t10_1 t11_0 t12_0 t12_1 t13_0 t14_0 t14_1 t15_0 t16_0 t16_1 t17_0 t18_0 t18_1 t19_0) else (if ((F_NH_isRegister x4) : Int32) = (0 : Int32) then (S_NH_powerModulo_at_J33 x2 x3 x4 x5 t0_0 t0_1 t1_0 t2_0 t2_1 t3_0 t4_0 t4_1 t5_0 t6_0 t6_1 t7_0 t8_0 t8_1 t9_0 t10_0 t10_1 t11_0 t12_0 t12_1 t13_0 t14_0 t14_1 t15_0 t16_0 t16_1 t17_0 t18_0 t18_1 t19_0) else (if ((F_NH_isRegister x5) : Int32) = (0 : Int32) then (S_NH_powerModulo_at_J33 x2 x3 x4 x5 t0_0 t0_1 t1_0 t2_0 t2_1 t3_0 t4_0 t4_1 t5_0 t6_0 t6_1 t7_0 t8_0 t8_1 t9_0 t10_0 t10_1 t11_0 t12_0 t12_1 t13_0 t14_0 t14_1 t15_0 t16_0 t16_1 t17_0 t18_0 t18_1 t19_0) else (S_NH_powerModulo_at_J34 x2 x3 x4 x5 t0_0 t0_1 t1_0 t2_0 t2_1 t3_0 t4_0 t4_1 t5_0 t6_0 t6_1 t7_0 t8_0 t8_1 t9_0 t10_0 t10_1 t11_0 t12_0 t12_1 t13_0 t14_0 t14_1 t15_0 t16_0 t16_1 t17_0 t18_0 t18_1 t19_0 1))))
set_option maxRecDepth 100000 in
set_option maxHeartbeats 4000000 in
theorem X_NH_powerModulo_at (l : Launch) (D : va_G) (g : Nat → ClassId) (q : Nat → Nat) (ws : va_W) (x2 : Int32) (x3 : Int32) (x4 : Int32) (x5 : Int32) (k4 : Nat) (hBk4 : q_isBig (nsh g q) g q k4 68) (yk4 : 66 ≤ k4) (gk4x2 : x2.toNatClampNeg < 10 → k4 = 66 + 5 * x2.toNatClampNeg) (k3 : Nat) (hBk3 : q_isBig (nsh g q) g q k3 68) (yk3 : 66 ≤ k3) (gk3x3 : x3.toNatClampNeg < 10 → k3 = 66 + 5 * x3.toNatClampNeg) (gk4x4 : x4.toNatClampNeg < 10 → k4 = 66 + 5 * x4.toNatClampNeg) (gk4x5 : x5.toNatClampNeg < 10 → k4 = 66 + 5 * x5.toNatClampNeg) (ne_k3_k4 : k3 ≠ k4) (ne_k3_k4p1 : k3 ≠ k4 + 1) (ne_k4_k3p1 : k4 ≠ k3 + 1) (hlt : l.stackTraces = false) (hI : q_I (nsh g q) q ws) (t0_0 : Int32) (t0_1 : Int32) (hT0 : ws[10]? = (some (q 10, .inr (2, [.ref (q 11), .int t0_0, .int t0_1])) : Option (Nat × va_E))) (t1_0 : (Nat → Int32)) (hT1 : ws[11]? = (some (q 11, .inl (g 0, (220 : Int32).toNatClampNeg, .inl t1_0)) : Option (Nat × va_E))) (t2_0 : Int32) (t2_1 : Int32) (hT2 : ws[12]? = (some (q 12, .inr (2, [.ref (q 13), .int t2_0, .int t2_1])) : Option (Nat × va_E))) (t3_0 : (Nat → Int32)) (hT3 : ws[13]? = (some (q 13, .inl (g 0, (220 : Int32).toNatClampNeg, .inl t3_0)) : Option (Nat × va_E))) (t4_0 : Int32) (t4_1 : Int32) (hT4 : ws[14]? = (some (q 14, .inr (2, [.ref (q 15), .int t4_0, .int t4_1])) : Option (Nat × va_E))) (t5_0 : (Nat → Int32)) (hT5 : ws[15]? = (some (q 15, .inl (g 0, (220 : Int32).toNatClampNeg, .inl t5_0)) : Option (Nat × va_E))) (t6_0 : Int32) (t6_1 : Int32) (hT6 : ws[18]? = (some (q 18, .inr (2, [.ref (q 19), .int t6_0, .int t6_1])) : Option (Nat × va_E))) (t7_0 : (Nat → Int32)) (hT7 : ws[19]? = (some (q 19, .inl (g 0, (220 : Int32).toNatClampNeg, .inl t7_0)) : Option (Nat × va_E))) (t8_0 : Int32) (t8_1 : Int32) (hT8 : ws[22]? = (some (q 22, .inr (2, [.ref (q 23), .int t8_0, .int t8_1])) : Option (Nat × va_E))) (t9_0 : (Nat → Int32)) (hT9 : ws[23]? = (some (q 23, .inl (g 0, (220 : Int32).toNatClampNeg, .inl t9_0)) : Option (Nat × va_E))) (t10_0 : Int32) (t10_1 : Int32) (hT10 : ws[24]? = (some (q 24, .inr (2, [.ref (q 25), .int t10_0, .int t10_1])) : Option (Nat × va_E))) (t11_0 : (Nat → Int32)) (hT11 : ws[25]? = (some (q 25, .inl (g 0, (220 : Int32).toNatClampNeg, .inl t11_0)) : Option (Nat × va_E))) (t12_0 : Int32) (t12_1 : Int32) (hT12 : ws[26]? = (some (q 26, .inr (2, [.ref (q 27), .int t12_0, .int t12_1])) : Option (Nat × va_E))) (t13_0 : (Nat → Int32)) (hT13 : ws[27]? = (some (q 27, .inl (g 0, (220 : Int32).toNatClampNeg, .inl t13_0)) : Option (Nat × va_E))) (t14_0 : Int32) (t14_1 : Int32) (hT14 : ws[28]? = (some (q 28, .inr (2, [.ref (q 29), .int t14_0, .int t14_1])) : Option (Nat × va_E))) (t15_0 : (Nat → Int32)) (hT15 : ws[29]? = (some (q 29, .inl (g 0, (220 : Int32).toNatClampNeg, .inl t15_0)) : Option (Nat × va_E))) (t16_0 : Int32) (t16_1 : Int32) (hT16 : ws[k4]? = (some (q k4, .inr (2, [.ref (q (k4 + 1)), .int t16_0, .int t16_1])) : Option (Nat × va_E))) (t17_0 : (Nat → Int32)) (hT17 : ws[k4 + 1]? = (some (q (k4 + 1), .inl (g 0, (68 : Int32).toNatClampNeg, .inl t17_0)) : Option (Nat × va_E))) (t18_0 : Int32) (t18_1 : Int32) (hT18 : ws[k3]? = (some (q k3, .inr (2, [.ref (q (k3 + 1)), .int t18_0, .int t18_1])) : Option (Nat × va_E))) (t19_0 : (Nat → Int32)) (hT19 : ws[k3 + 1]? = (some (q (k3 + 1), .inl (g 0, (68 : Int32).toNatClampNeg, .inl t19_0)) : Option (Nat × va_E))) (hS : True ∧ S_NH_powerModulo_at x2 x3 x4 x5 t0_0 t0_1 t1_0 t2_0 t2_1 t3_0 t4_0 t4_1 t5_0 t6_0 t6_1 t7_0 t8_0 t8_1 t9_0 t10_0 t10_1 t11_0 t12_0 t12_1 t13_0 t14_0 t14_1 t15_0 t16_0 t16_1 t17_0 t18_0 t18_1 t19_0) : ∀ sz, q_Mx l y_NH_powerModulo prog_1_method_10_code 5 none 9 4 24 D g [.ref (q 0), .int x2, .int x3, .int x4, .int x5] ws sz (va_Qv (fun u => q_I (nsh g q) q u ∧ q_un ws u [10, 11, 12, 13, 14, 15, 18, 19, 22, 23, 24, 25, 26, 27, 28, 29, k4, k4 + 1] ∧ ∃ (u0_0 : Int32) (u0_1 : Int32) (u1_0 : (Nat → Int32)) (u2_0 : Int32) (u2_1 : Int32) (u3_0 : (Nat → Int32)) (u4_0 : Int32) (u4_1 : Int32) (u5_0 : (Nat → Int32)) (u6_0 : Int32) (u6_1 : Int32) (u7_0 : (Nat → Int32)) (u8_0 : Int32) (u8_1 : Int32) (u9_0 : (Nat → Int32)) (u10_0 : Int32) (u10_1 : Int32) (u11_0 : (Nat → Int32)) (u12_0 : Int32) (u12_1 : Int32) (u13_0 : (Nat → Int32)) (u14_0 : Int32) (u14_1 : Int32) (u15_0 : (Nat → Int32)) (u16_0 : Int32) (u16_1 : Int32) (u17_0 : (Nat → Int32)), u[10]? = (some (q 10, .inr (2, [.ref (q 11), .int u0_0, .int u0_1])) : Option (Nat × va_E)) ∧ u[11]? = (some (q 11, .inl (g 0, (220 : Int32).toNatClampNeg, .inl u1_0)) : Option (Nat × va_E)) ∧ u[12]? = (some (q 12, .inr (2, [.ref (q 13), .int u2_0, .int u2_1])) : Option (Nat × va_E)) ∧ u[13]? = (some (q 13, .inl (g 0, (220 : Int32).toNatClampNeg, .inl u3_0)) : Option (Nat × va_E)) ∧ u[14]? = (some (q 14, .inr (2, [.ref (q 15), .int u4_0, .int u4_1])) : Option (Nat × va_E)) ∧ u[15]? = (some (q 15, .inl (g 0, (220 : Int32).toNatClampNeg, .inl u5_0)) : Option (Nat × va_E)) ∧ u[18]? = (some (q 18, .inr (2, [.ref (q 19), .int u6_0, .int u6_1])) : Option (Nat × va_E)) ∧ u[19]? = (some (q 19, .inl (g 0, (220 : Int32).toNatClampNeg, .inl u7_0)) : Option (Nat × va_E)) ∧ u[22]? = (some (q 22, .inr (2, [.ref (q 23), .int u8_0, .int u8_1])) : Option (Nat × va_E)) ∧ u[23]? = (some (q 23, .inl (g 0, (220 : Int32).toNatClampNeg, .inl u9_0)) : Option (Nat × va_E)) ∧ u[24]? = (some (q 24, .inr (2, [.ref (q 25), .int u10_0, .int u10_1])) : Option (Nat × va_E)) ∧ u[25]? = (some (q 25, .inl (g 0, (220 : Int32).toNatClampNeg, .inl u11_0)) : Option (Nat × va_E)) ∧ u[26]? = (some (q 26, .inr (2, [.ref (q 27), .int u12_0, .int u12_1])) : Option (Nat × va_E)) ∧ u[27]? = (some (q 27, .inl (g 0, (220 : Int32).toNatClampNeg, .inl u13_0)) : Option (Nat × va_E)) ∧ u[28]? = (some (q 28, .inr (2, [.ref (q 29), .int u14_0, .int u14_1])) : Option (Nat × va_E)) ∧ u[29]? = (some (q 29, .inl (g 0, (220 : Int32).toNatClampNeg, .inl u15_0)) : Option (Nat × va_E)) ∧ u[k4]? = (some (q k4, .inr (2, [.ref (q (k4 + 1)), .int u16_0, .int u16_1])) : Option (Nat × va_E)) ∧ u[k4 + 1]? = (some (q (k4 + 1), .inl (g 0, (68 : Int32).toNatClampNeg, .inl u17_0)) : Option (Nat × va_E)) ∧ (0 ≤ u0_0.toInt) ∧ (u0_0.toInt ≤ 220) ∧ (0 ≤ u0_1.toInt) ∧ (u0_1.toInt ≤ 1) ∧ (0 ≤ u2_0.toInt) ∧ (u2_0.toInt ≤ 220) ∧ (0 ≤ u2_1.toInt) ∧ (u2_1.toInt ≤ 0) ∧ (0 ≤ u4_0.toInt) ∧ (u4_0.toInt ≤ 220) ∧ (0 ≤ u4_1.toInt) ∧ (u4_1.toInt ≤ 1) ∧ (0 ≤ u6_0.toInt) ∧ (u6_0.toInt ≤ 220) ∧ (0 ≤ u6_1.toInt) ∧ (u6_1.toInt ≤ 1) ∧ (0 ≤ u8_0.toInt) ∧ (u8_0.toInt ≤ 220) ∧ (0 ≤ u8_1.toInt) ∧ (u8_1.toInt ≤ 1) ∧ (0 ≤ u10_0.toInt) ∧ (u10_0.toInt ≤ 220) ∧ (0 ≤ u10_1.toInt) ∧ (u10_1.toInt ≤ 1) ∧ (0 ≤ u12_0.toInt) ∧ (u12_0.toInt ≤ 220) ∧ (0 ≤ u12_1.toInt) ∧ (u12_1.toInt ≤ 1) ∧ (0 ≤ u14_0.toInt) ∧ (u14_0.toInt ≤ 220) ∧ (0 ≤ u14_1.toInt) ∧ (u14_1.toInt ≤ 1) ∧ (0 ≤ u16_0.toInt) ∧ (u16_0.toInt ≤ 68) ∧ (x2.toInt ≤ u2_1.toInt + 9) ∧ (u2_1.toInt ≤ x2.toInt) ∧ (x3.toInt ≤ u2_1.toInt + 9) ∧ (u2_1.toInt ≤ x3.toInt) ∧ (x4.toInt ≤ u2_1.toInt + 9) ∧ (u2_1.toInt ≤ x4.toInt) ∧ (x5.toInt ≤ u16_0.toInt + 9) ∧ (u16_0.toInt ≤ x5.toInt + 68) ∧ (x5.toInt ≤ u16_1.toInt + 9) ∧ (u16_1.toInt ≤ x5.toInt + 1) ∧ (u0_0.toInt ≤ u4_0.toInt) ∧ (u16_0.toInt ≤ u0_0.toInt) ∧ (u16_1.toInt ≤ u0_1.toInt) ∧ (u0_1.toInt ≤ u16_1.toInt) ∧ (u16_1.toInt ≤ u4_1.toInt) ∧ (u4_1.toInt ≤ u16_1.toInt) ∧ ((0 : Int32), u0_0, u0_1, u1_0, u2_0, u2_1, u3_0, u4_0, u4_1, u5_0, u6_0, u6_1, u7_0, u8_0, u8_1, u9_0, u10_0, u10_1, u11_0, u12_0, u12_1, u13_0, u14_0, u14_1, u15_0, u16_0, u16_1, u17_0) = (F_NH_powerModulo_at x2 x3 x4 x5 t0_0 t0_1 t1_0 t2_0 t2_1 t3_0 t4_0 t4_1 t5_0 t6_0 t6_1 t7_0 t8_0 t8_1 t9_0 t10_0 t10_1 t11_0 t12_0 t12_1 t13_0 t14_0 t14_1 t15_0 t16_0 t16_1 t17_0 t18_0 t18_1 t19_0)) (q_B D g (va_A ws sz)) (va_A ws sz)) (fun E u => ∃ c : Int32, E = qE c ∧ c ≠ 0 ∧ q_I (nsh g q) q u ∧ q_un ws u [10, 11, 12, 13, 14, 15, 18, 19, 22, 23, 24, 25, 26, 27, 28, 29, k4, k4 + 1] ∧ ∃ (u0_0 : Int32) (u0_1 : Int32) (u1_0 : (Nat → Int32)) (u2_0 : Int32) (u2_1 : Int32) (u3_0 : (Nat → Int32)) (u4_0 : Int32) (u4_1 : Int32) (u5_0 : (Nat → Int32)) (u6_0 : Int32) (u6_1 : Int32) (u7_0 : (Nat → Int32)) (u8_0 : Int32) (u8_1 : Int32) (u9_0 : (Nat → Int32)) (u10_0 : Int32) (u10_1 : Int32) (u11_0 : (Nat → Int32)) (u12_0 : Int32) (u12_1 : Int32) (u13_0 : (Nat → Int32)) (u14_0 : Int32) (u14_1 : Int32) (u15_0 : (Nat → Int32)) (u16_0 : Int32) (u16_1 : Int32) (u17_0 : (Nat → Int32)), u[10]? = (some (q 10, .inr (2, [.ref (q 11), .int u0_0, .int u0_1])) : Option (Nat × va_E)) ∧ u[11]? = (some (q 11, .inl (g 0, (220 : Int32).toNatClampNeg, .inl u1_0)) : Option (Nat × va_E)) ∧ u[12]? = (some (q 12, .inr (2, [.ref (q 13), .int u2_0, .int u2_1])) : Option (Nat × va_E)) ∧ u[13]? = (some (q 13, .inl (g 0, (220 : Int32).toNatClampNeg, .inl u3_0)) : Option (Nat × va_E)) ∧ u[14]? = (some (q 14, .inr (2, [.ref (q 15), .int u4_0, .int u4_1])) : Option (Nat × va_E)) ∧ u[15]? = (some (q 15, .inl (g 0, (220 : Int32).toNatClampNeg, .inl u5_0)) : Option (Nat × va_E)) ∧ u[18]? = (some (q 18, .inr (2, [.ref (q 19), .int u6_0, .int u6_1])) : Option (Nat × va_E)) ∧ u[19]? = (some (q 19, .inl (g 0, (220 : Int32).toNatClampNeg, .inl u7_0)) : Option (Nat × va_E)) ∧ u[22]? = (some (q 22, .inr (2, [.ref (q 23), .int u8_0, .int u8_1])) : Option (Nat × va_E)) ∧ u[23]? = (some (q 23, .inl (g 0, (220 : Int32).toNatClampNeg, .inl u9_0)) : Option (Nat × va_E)) ∧ u[24]? = (some (q 24, .inr (2, [.ref (q 25), .int u10_0, .int u10_1])) : Option (Nat × va_E)) ∧ u[25]? = (some (q 25, .inl (g 0, (220 : Int32).toNatClampNeg, .inl u11_0)) : Option (Nat × va_E)) ∧ u[26]? = (some (q 26, .inr (2, [.ref (q 27), .int u12_0, .int u12_1])) : Option (Nat × va_E)) ∧ u[27]? = (some (q 27, .inl (g 0, (220 : Int32).toNatClampNeg, .inl u13_0)) : Option (Nat × va_E)) ∧ u[28]? = (some (q 28, .inr (2, [.ref (q 29), .int u14_0, .int u14_1])) : Option (Nat × va_E)) ∧ u[29]? = (some (q 29, .inl (g 0, (220 : Int32).toNatClampNeg, .inl u15_0)) : Option (Nat × va_E)) ∧ u[k4]? = (some (q k4, .inr (2, [.ref (q (k4 + 1)), .int u16_0, .int u16_1])) : Option (Nat × va_E)) ∧ u[k4 + 1]? = (some (q (k4 + 1), .inl (g 0, (68 : Int32).toNatClampNeg, .inl u17_0)) : Option (Nat × va_E)) ∧ (c, u0_0, u0_1, u1_0, u2_0, u2_1, u3_0, u4_0, u4_1, u5_0, u6_0, u6_1, u7_0, u8_0, u8_1, u9_0, u10_0, u10_1, u11_0, u12_0, u12_1, u13_0, u14_0, u14_1, u15_0, u16_0, u16_1, u17_0) = (F_NH_powerModulo_at x2 x3 x4 x5 t0_0 t0_1 t1_0 t2_0 t2_1 t3_0 t4_0 t4_1 t5_0 t6_0 t6_1 t7_0 t8_0 t8_1 t9_0 t10_0 t10_1 t11_0 t12_0 t12_1 t13_0 t14_0 t14_1 t15_0 t16_0 t16_1 t17_0 t18_0 t18_1 t19_0)) := by
  intro sz
  refine q_intoX (by decide) (Nat.le_of_ble_eq_true rfl) ?_
  intro p e s m below meth c ls hsz C0 V hno hl
  have hx := C0.1
  have hb := C0.2.1
  have btt0_1 := (q_bigW hI (n_b10 g q) hT0).2
  clear btt0_1
  have btt2_1 := (q_bigW hI (n_b12 g q) hT2).2
  clear btt2_1
  have btt4_1 := (q_bigW hI (n_b14 g q) hT4).2
  clear btt4_1
  have btt6_1 := (q_bigW hI (n_b18 g q) hT6).2
  clear btt6_1
  obtain ⟨btt8_0, btt8_1⟩ := q_bigW hI (n_b22 g q) hT8
  replace btt8_0 : q_F (0 ≤ t8_0.toInt ∧ t8_0.toInt ≤ 220) := btt8_0
  replace btt8_1 : q_F (0 ≤ t8_1.toInt ∧ t8_1.toInt ≤ 1) := btt8_1
  obtain ⟨btt10_0, btt10_1⟩ := q_bigW hI (n_b24 g q) hT10
  replace btt10_0 : q_F (0 ≤ t10_0.toInt ∧ t10_0.toInt ≤ 220) := btt10_0
  replace btt10_1 : q_F (0 ≤ t10_1.toInt ∧ t10_1.toInt ≤ 1) := btt10_1
  obtain ⟨btt12_0, btt12_1⟩ := q_bigW hI (n_b26 g q) hT12
  replace btt12_0 : q_F (0 ≤ t12_0.toInt ∧ t12_0.toInt ≤ 220) := btt12_0
  replace btt12_1 : q_F (0 ≤ t12_1.toInt ∧ t12_1.toInt ≤ 1) := btt12_1
  obtain ⟨btt14_0, btt14_1⟩ := q_bigW hI (n_b28 g q) hT14
  replace btt14_0 : q_F (0 ≤ t14_0.toInt ∧ t14_0.toInt ≤ 220) := btt14_0
  replace btt14_1 : q_F (0 ≤ t14_1.toInt ∧ t14_1.toInt ≤ 1) := btt14_1
  have btt16_1 := (q_bigW hI hBk4 hT16).2
  replace btt16_1 : q_F (0 ≤ t16_1.toInt ∧ t16_1.toInt ≤ 1) := btt16_1
  have btt18_1 := (q_bigW hI hBk3 hT18).2
  clear btt18_1
  have hF : q_un ws ws [10, 11, 12, 13, 14, 15, 18, 19, 22, 23, 24, 25, 26, 27, 28, 29, k4, k4 + 1] := q_u0
  have hl : lv_has ls 5 [(0, .ref (q 0)), (1, .int x2), (2, .int x3), (3, .int x4), (4, .int x5)] := hl
  refine lv_iload_n hx hb d_1_10_0 rfl (lv_at hl 1 rfl) ?_
  refine q_goi V (q_runS (As := [.int x2]) (rest := []) (d := 1) (mc := 0) (ms := 0) C0 V rfl LS_NH_212 (X_NH_isRegister l D g q ws  x2 hI   _) rfl hl.1 rfl (Nat.le_of_ble_eq_true rfl) ⟨by decide, by decide⟩ ⟨Nat.le_of_ble_eq_true rfl, Nat.le_of_ble_eq_true rfl⟩ d_1_10_1) (fun a83 u81 H locs hp82 V => ?_)
  obtain ⟨rfl, b84, b85, hE86⟩ := hp82
  have e87 : a83 = (F_NH_isRegister x2) := hE86
  clear b84
  clear b85
  refine q_join (X := Int32) (fun z H locs ls _ => q_F (0 ≤ z.toInt) ∧ q_F (z.toInt ≤ 1) ∧ q_Wd D g (va_A ws sz) s ws H locs ∧ lv_has ls 5 [(0, .ref (q 0)), (1, .int x2), (2, .int x3), (3, .int x4), (4, .int x5)] ∧ F_NH_powerModulo_at_J34 x2 x3 x4 x5 t0_0 t0_1 t1_0 t2_0 t2_1 t3_0 t4_0 t4_1 t5_0 t6_0 t6_1 t7_0 t8_0 t8_1 t9_0 t10_0 t10_1 t11_0 t12_0 t12_1 t13_0 t14_0 t14_1 t15_0 t16_0 t16_1 t17_0 t18_0 t18_1 t19_0 z = (F_NH_powerModulo_at x2 x3 x4 x5 t0_0 t0_1 t1_0 t2_0 t2_1 t3_0 t4_0 t4_1 t5_0 t6_0 t6_1 t7_0 t8_0 t8_1 t9_0 t10_0 t10_1 t11_0 t12_0 t12_1 t13_0 t14_0 t14_1 t15_0 t16_0 t16_1 t17_0 t18_0 t18_1 t19_0) ∧ True ∧ S_NH_powerModulo_at_J34 x2 x3 x4 x5 t0_0 t0_1 t1_0 t2_0 t2_1 t3_0 t4_0 t4_1 t5_0 t6_0 t6_1 t7_0 t8_0 t8_1 t9_0 t10_0 t10_1 t11_0 t12_0 t12_1 t13_0 t14_0 t14_1 t15_0 t16_0 t16_1 t17_0 t18_0 t18_1 t19_0 z) (fun z => [.int z]) 34 0 0 ?_ ?_
  ·
    rintro lx88 H locs ls _ hZ9
    obtain ⟨i110, hZ9⟩ := hZ9
    obtain ⟨i111, hZ9⟩ := hZ9
    obtain ⟨V, hZ9⟩ := hZ9
    obtain ⟨hl, hZ9⟩ := hZ9
    obtain ⟨hR112, hS113⟩ := hZ9
    replace i110 : q_F (0 ≤ lx88.toInt) := i110
    replace i111 : q_F (lx88.toInt ≤ 1) := i111
    replace hl : lv_has ls 5 [(0, .ref (q 0)), (1, .int x2), (2, .int x3), (3, .int x4), (4, .int x5)] := hl
    refine q_goxv V (q_runSX (As := [.int lx88]) (rest := []) (d := 7) (mc := 1) (ms := 6) C0 V rfl LS_NH_104 (X_NH_need l D g q ws  lx88 hlt hI  ⟨(by first | with_reducible exact q_fe i110 | (have t1 : 0 ≤ lx88.toInt := i110; omega)), (by first | with_reducible exact q_fe i111 | (have t1 : lx88.toInt ≤ 1 := i111; omega))⟩ _) rfl hl.1 rfl (Nat.le_of_ble_eq_true rfl) ⟨by decide, by decide⟩ ⟨Nat.le_of_ble_eq_true rfl, Nat.le_of_ble_eq_true rfl⟩ d_1_10_34) (fun qx Ex ce u117 H locs hp118 V hce hcv hcl => ?_) (fun u117 H locs hp118 V => ?_)
    ·
      obtain ⟨cx120, he121, hc122, rfl, hE119⟩ := hp118
      have c123 : ¬ (F_NH_need lx88) = (0 : Int32) := fun z => hc122 (((hE119) : cx120 = _).trans z)
      exact q_outT hno C0 V (⟨(F_NH_need lx88), (he121.trans (congrArg qE ((hE119) : cx120 = _))), c123, hI, hF, t0_0, t0_1, t1_0, t2_0, t2_1, t3_0, t4_0, t4_1, t5_0, t6_0, t6_1, t7_0, t8_0, t8_1, t9_0, t10_0, t10_1, t11_0, t12_0, t12_1, t13_0, t14_0, t14_1, t15_0, t16_0, t16_1, t17_0, hT0, hT1, hT2, hT3, hT4, hT5, hT6, hT7, hT8, hT9, hT10, hT11, hT12, hT13, hT14, hT15, hT16, hT17, (show ((F_NH_need lx88), t0_0, t0_1, t1_0, t2_0, t2_1, t3_0, t4_0, t4_1, t5_0, t6_0, t6_1, t7_0, t8_0, t8_1, t9_0, t10_0, t10_1, t11_0, t12_0, t12_1, t13_0, t14_0, t14_1, t15_0, t16_0, t16_1, t17_0) = (F_NH_powerModulo_at x2 x3 x4 x5 t0_0 t0_1 t1_0 t2_0 t2_1 t3_0 t4_0 t4_1 t5_0 t6_0 t6_1 t7_0 t8_0 t8_1 t9_0 t10_0 t10_1 t11_0 t12_0 t12_1 t13_0 t14_0 t14_1 t15_0 t16_0 t16_1 t17_0 t18_0 t18_1 t19_0) from Eq.trans (by rw [F_NH_powerModulo_at_J34.eq_1, if_neg c123]) hR112)⟩) hce hcv hcl (Nat.le_of_ble_eq_true rfl) (Nat.le_of_ble_eq_true rfl)
    ·
      obtain ⟨rfl, hE124⟩ := hp118
      have c123 : (F_NH_need lx88) = (0 : Int32) := ((hE124) : (0 : Int32) = _).symm
      refine lv_aload_n hx hb d_1_10_37 rfl (lv_at hl 0 rfl) ?_
      have hO126 := n_o0 hI
      refine q_get (ci := 0) (j := 2) (v := .ref (q 5)) C0 V i_NH rfl rfl hO126 (by decide) w_426 rfl d_1_10_38 ?_
      refine lv_iload_n hx hb d_1_10_41 rfl (lv_at hl 3 rfl) ?_
      have hX127 := n_fx hI (n_s5 g q)
      have ob128 : q_F (0 ≤ x4.toInt) := (by have h := hS113; rw [S_NH_powerModulo_at_J34.eq_1] at h; rw [if_pos c123] at h; exact h.2.1)
      have ob129 : q_F (x4.toInt ≤ 9) := (by have h := hS113; rw [S_NH_powerModulo_at_J34.eq_1] at h; rw [if_pos c123] at h; replace h := q_s2 h; exact h.2.1)
      have hj130 : x4.toNatClampNeg < 10 := by have z := q_clI (i := x4) (x := x4.toInt) rfl (by first | with_reducible exact q_fe ob128 | (have t1 : 0 ≤ x4.toInt := ob128; omega)); have t1 : 0 ≤ x4.toInt := ob128; have t2 : x4.toInt ≤ 9 := ob129; omega
      have hq131 := gk4x4 hj130
      refine q_aald (t := 4) (q := q k4) C0 V hX127 rfl (q_ix (x := x4.toInt) rfl (by first | with_reducible exact q_fe ob128 | (have t1 : 0 ≤ x4.toInt := ob128; omega)) (by have t1 : 0 ≤ x4.toInt := ob128; have t2 : x4.toInt ≤ 9 := ob129; omega)) (by rw [hq131]; exact n_fwv hj130) d_1_10_42 ?_
      refine q_goi V (q_runV (As := []) (rest := []) (d := 1) (mc := 0) (ms := 0) (ci := 2) C0 V rfl LV_NH_225 (X_Big_sign l D g q ws k4 68 hBk4 (Or.inr yk4)  hI t16_0 t16_1 hT16  _) rfl rfl hT16 rfl hl.1 rfl (Nat.le_of_ble_eq_true rfl) ⟨by decide, by decide⟩ ⟨Nat.le_of_ble_eq_true rfl, Nat.le_of_ble_eq_true rfl⟩ d_1_10_43) (fun a134 u132 H locs hp133 V => ?_)
      obtain ⟨rfl, b135, b136, b137, hE138⟩ := hp133
      have e139 : a134 = (F_Big_sign (68 : Int32) t16_0 t16_1) := hE138
      clear b135
      clear b136
      clear b137
      refine q_join (X := Int32) (fun z H locs ls _ => q_F (0 ≤ z.toInt) ∧ q_F (z.toInt ≤ 1) ∧ q_Wd D g (va_A ws sz) s ws H locs ∧ lv_has ls 5 [(0, .ref (q 0)), (1, .int x2), (2, .int x3), (3, .int x4), (4, .int x5)] ∧ F_NH_powerModulo_at_J54 x2 x3 x4 x5 t0_0 t0_1 t1_0 t2_0 t2_1 t3_0 t4_0 t4_1 t5_0 t6_0 t6_1 t7_0 t8_0 t8_1 t9_0 t10_0 t10_1 t11_0 t12_0 t12_1 t13_0 t14_0 t14_1 t15_0 t16_0 t16_1 t17_0 t18_0 t18_1 t19_0 lx88 z = (F_NH_powerModulo_at x2 x3 x4 x5 t0_0 t0_1 t1_0 t2_0 t2_1 t3_0 t4_0 t4_1 t5_0 t6_0 t6_1 t7_0 t8_0 t8_1 t9_0 t10_0 t10_1 t11_0 t12_0 t12_1 t13_0 t14_0 t14_1 t15_0 t16_0 t16_1 t17_0 t18_0 t18_1 t19_0) ∧ True ∧ S_NH_powerModulo_at_J54 x2 x3 x4 x5 t0_0 t0_1 t1_0 t2_0 t2_1 t3_0 t4_0 t4_1 t5_0 t6_0 t6_1 t7_0 t8_0 t8_1 t9_0 t10_0 t10_1 t11_0 t12_0 t12_1 t13_0 t14_0 t14_1 t15_0 t16_0 t16_1 t17_0 t18_0 t18_1 t19_0 lx88 z) (fun z => [.int z]) 54 1 6 ?_ ?_
      ·
        rintro lx140 H locs ls _ hZ9
        obtain ⟨i162, hZ9⟩ := hZ9
        obtain ⟨i163, hZ9⟩ := hZ9
        obtain ⟨V, hZ9⟩ := hZ9
        obtain ⟨hl, hZ9⟩ := hZ9
        obtain ⟨hR164, hS165⟩ := hZ9
        replace i162 : q_F (0 ≤ lx140.toInt) := i162
        replace i163 : q_F (lx140.toInt ≤ 1) := i163
        replace hl : lv_has ls 5 [(0, .ref (q 0)), (1, .int x2), (2, .int x3), (3, .int x4), (4, .int x5)] := hl
        refine q_goxv V (q_runSX (As := [.int lx140]) (rest := []) (d := 7) (mc := 1) (ms := 6) C0 V rfl LS_NH_138 (X_NH_canHave l D g q ws  lx140 hlt hI  ⟨(by first | with_reducible exact q_fe i162 | (have t1 : 0 ≤ lx140.toInt := i162; omega)), (by first | with_reducible exact q_fe i163 | (have t1 : lx140.toInt ≤ 1 := i163; omega))⟩ _) rfl hl.1 rfl (Nat.le_of_ble_eq_true rfl) ⟨by decide, by decide⟩ ⟨Nat.le_of_ble_eq_true rfl, Nat.le_of_ble_eq_true rfl⟩ d_1_10_54) (fun qx Ex ce u169 H locs hp170 V hce hcv hcl => ?_) (fun u169 H locs hp170 V => ?_)
        ·
          obtain ⟨cx172, he173, hc174, rfl, hE171⟩ := hp170
          have c175 : ¬ (F_NH_canHave lx140) = (0 : Int32) := fun z => hc174 (((hE171) : cx172 = _).trans z)
          exact q_outT hno C0 V (⟨(F_NH_canHave lx140), (he173.trans (congrArg qE ((hE171) : cx172 = _))), c175, hI, hF, t0_0, t0_1, t1_0, t2_0, t2_1, t3_0, t4_0, t4_1, t5_0, t6_0, t6_1, t7_0, t8_0, t8_1, t9_0, t10_0, t10_1, t11_0, t12_0, t12_1, t13_0, t14_0, t14_1, t15_0, t16_0, t16_1, t17_0, hT0, hT1, hT2, hT3, hT4, hT5, hT6, hT7, hT8, hT9, hT10, hT11, hT12, hT13, hT14, hT15, hT16, hT17, (show ((F_NH_canHave lx140), t0_0, t0_1, t1_0, t2_0, t2_1, t3_0, t4_0, t4_1, t5_0, t6_0, t6_1, t7_0, t8_0, t8_1, t9_0, t10_0, t10_1, t11_0, t12_0, t12_1, t13_0, t14_0, t14_1, t15_0, t16_0, t16_1, t17_0) = (F_NH_powerModulo_at x2 x3 x4 x5 t0_0 t0_1 t1_0 t2_0 t2_1 t3_0 t4_0 t4_1 t5_0 t6_0 t6_1 t7_0 t8_0 t8_1 t9_0 t10_0 t10_1 t11_0 t12_0 t12_1 t13_0 t14_0 t14_1 t15_0 t16_0 t16_1 t17_0 t18_0 t18_1 t19_0) from Eq.trans (by rw [F_NH_powerModulo_at_J54.eq_1, if_neg c175]) hR164)⟩) hce hcv hcl (Nat.le_of_ble_eq_true rfl) (Nat.le_of_ble_eq_true rfl)
        ·
          obtain ⟨rfl, hE176⟩ := hp170
          have c175 : (F_NH_canHave lx140) = (0 : Int32) := ((hE176) : (0 : Int32) = _).symm
          refine lv_aload_n hx hb d_1_10_57 rfl (lv_at hl 0 rfl) ?_
          refine q_get (ci := 0) (j := 2) (v := .ref (q 5)) C0 V i_NH rfl rfl hO126 (by decide) w_426 rfl d_1_10_58 ?_
          refine lv_iload_n hx hb d_1_10_61 rfl (lv_at hl 2 rfl) ?_
          have hX178 := n_fx hI (n_s5 g q)
          have ob179 : q_F (0 ≤ x3.toInt) := (by have h := hS165; rw [S_NH_powerModulo_at_J54.eq_1] at h; rw [if_pos c175] at h; exact h.2.1)
          have ob180 : q_F (x3.toInt ≤ 9) := (by have h := hS165; rw [S_NH_powerModulo_at_J54.eq_1] at h; rw [if_pos c175] at h; replace h := q_s2 h; exact h.2.1)
          have hj181 : x3.toNatClampNeg < 10 := by have z := q_clI (i := x3) (x := x3.toInt) rfl (by first | with_reducible exact q_fe ob179 | (have t1 : 0 ≤ x3.toInt := ob179; omega)); have t1 : 0 ≤ x3.toInt := ob179; have t2 : x3.toInt ≤ 9 := ob180; omega
          have hq182 := gk3x3 hj181
          refine q_aald (t := 4) (q := q k3) C0 V hX178 rfl (q_ix (x := x3.toInt) rfl (by first | with_reducible exact q_fe ob179 | (have t1 : 0 ≤ x3.toInt := ob179; omega)) (by have t1 : 0 ≤ x3.toInt := ob179; have t2 : x3.toInt ≤ 9 := ob180; omega)) (by rw [hq182]; exact n_fwv hj181) d_1_10_62 ?_
          refine q_get (ci := 2) (j := 2) (v := .int t18_1) C0 V i_Big rfl rfl hT18 (by decide) w_98 rfl d_1_10_63 ?_
          refine lv_if_eq (tgt := 94) hx hb d_1_10_66 (by decide) (fun c183 => ?_) (fun c183 => ?_)
          ·
            refine lv_aload_n hx hb d_1_10_94 rfl (lv_at hl 0 rfl) ?_
            refine q_get (ci := 0) (j := 6) (v := .ref (q 9)) C0 V i_NH rfl rfl hO126 (by decide) w_430 rfl d_1_10_95 ?_
            refine lv_aload_n hx hb d_1_10_98 rfl (lv_at hl 0 rfl) ?_
            refine q_get (ci := 0) (j := 2) (v := .ref (q 5)) C0 V i_NH rfl rfl hO126 (by decide) w_426 rfl d_1_10_99 ?_
            refine lv_iload_n hx hb d_1_10_102 rfl (lv_at hl 1 rfl) ?_
            have hX185 := n_fx hI (n_s5 g q)
            have ob186 : q_F (0 ≤ x2.toInt) := (by have h := hS165; rw [S_NH_powerModulo_at_J54.eq_1] at h; rw [if_pos c175] at h; replace h := q_s2 h; replace h := q_s2 h; rw [if_pos c183] at h; exact h.2.1)
            have ob187 : q_F (x2.toInt ≤ 9) := (by have h := hS165; rw [S_NH_powerModulo_at_J54.eq_1] at h; rw [if_pos c175] at h; replace h := q_s2 h; replace h := q_s2 h; rw [if_pos c183] at h; replace h := q_s2 h; exact h.2.1)
            have hj188 : x2.toNatClampNeg < 10 := by have z := q_clI (i := x2) (x := x2.toInt) rfl (by first | with_reducible exact q_fe ob186 | (have t1 : 0 ≤ x2.toInt := ob186; omega)); have t1 : 0 ≤ x2.toInt := ob186; have t2 : x2.toInt ≤ 9 := ob187; omega
            have hq189 := gk4x2 hj188
            refine q_aald (t := 4) (q := q k4) C0 V hX185 rfl (q_ix (x := x2.toInt) rfl (by first | with_reducible exact q_fe ob186 | (have t1 : 0 ≤ x2.toInt := ob186; omega)) (by have t1 : 0 ≤ x2.toInt := ob186; have t2 : x2.toInt ≤ 9 := ob187; omega)) (by rw [hq189]; exact n_fwv hj188) d_1_10_103 ?_
            refine lv_aload_n hx hb d_1_10_104 rfl (lv_at hl 0 rfl) ?_
            refine q_get (ci := 0) (j := 2) (v := .ref (q 5)) C0 V i_NH rfl rfl hO126 (by decide) w_426 rfl d_1_10_105 ?_
            refine lv_iload_n hx hb d_1_10_108 rfl (lv_at hl 3 rfl) ?_
            have hX190 := n_fx hI (n_s5 g q)
            have hj191 : x4.toNatClampNeg < 10 := by have z := q_clI (i := x4) (x := x4.toInt) rfl (by first | with_reducible exact q_fe ob128 | (have t1 : 0 ≤ x4.toInt := ob128; omega)); have t1 : 0 ≤ x4.toInt := ob128; have t2 : x4.toInt ≤ 9 := ob129; omega
            have hq192 := gk4x4 hj191
            refine q_aald (t := 4) (q := q k4) C0 V hX190 rfl (q_ix (x := x4.toInt) rfl (by first | with_reducible exact q_fe ob128 | (have t1 : 0 ≤ x4.toInt := ob128; omega)) (by have t1 : 0 ≤ x4.toInt := ob128; have t2 : x4.toInt ≤ 9 := ob129; omega)) (by rw [hq192]; exact n_fwv hj191) d_1_10_109 ?_
            refine lv_aload_n hx hb d_1_10_110 rfl (lv_at hl 0 rfl) ?_
            refine q_get (ci := 0) (j := 6) (v := .ref (q 9)) C0 V i_NH rfl rfl hO126 (by decide) w_430 rfl d_1_10_111 ?_
            have hO193 := n_o9 hI
            refine q_get (ci := 4) (j := 0) (v := .ref (q 10)) C0 V i_Mil rfl rfl hO193 (by decide) w_112 rfl d_1_10_114 ?_
            have ob194 : True ∧ S_Mil_modulo_a (68 : Int32) (220 : Int32) t2_0 t2_1 t3_0 t16_0 t16_1 t17_0 t0_0 t0_1 t1_0 := (by have h := hS165; rw [S_NH_powerModulo_at_J54.eq_1] at h; rw [if_pos c175] at h; replace h := q_s2 h; replace h := q_s2 h; rw [if_pos c183] at h; replace h := q_s2 h; replace h := q_s2 h; with_reducible exact h.2.1)
            refine q_gov V (q_runV (As := [.ref (q k4), .ref (q k4), .ref (q 10)]) (rest := []) (d := 5) (mc := 0) (ms := 0) (ci := 4) C0 V rfl LV_NH_228 (X_Mil_modulo_a l D g q ws k4 68 hBk4 (Or.inr yk4) 10 220 (n_b10 g q) (by decide)  (by have z0 := yk4; omega) (by have z0 := yk4; omega) (by have z0 := yk4; omega) (by decide) (by decide) (by decide) (by have z0 := yk4; omega) hI t2_0 t2_1 hT2 t3_0 hT3 t16_0 t16_1 hT16 t17_0 hT17 t0_0 t0_1 hT0 t1_0 hT1 ob194 _) rfl rfl hO193 rfl hl.1 rfl (Nat.le_of_ble_eq_true rfl) ⟨by decide, by decide⟩ ⟨Nat.le_of_ble_eq_true rfl, Nat.le_of_ble_eq_true rfl⟩ d_1_10_117) (fun u195 H locs hp196 V => ?_)
            obtain ⟨hI, hZ9⟩ := hp196
            obtain ⟨hu228, hZ9⟩ := hZ9
            obtain ⟨y198, hZ9⟩ := hZ9
            obtain ⟨y199, hZ9⟩ := hZ9
            obtain ⟨f200, hZ9⟩ := hZ9
            obtain ⟨y203, hZ9⟩ := hZ9
            obtain ⟨y204, hZ9⟩ := hZ9
            obtain ⟨f205, hZ9⟩ := hZ9
            obtain ⟨y208, hZ9⟩ := hZ9
            obtain ⟨y209, hZ9⟩ := hZ9
            obtain ⟨f210, hZ9⟩ := hZ9
            obtain ⟨hO197, hZ9⟩ := hZ9
            obtain ⟨hA201, hZ9⟩ := hZ9
            obtain ⟨hO202, hZ9⟩ := hZ9
            obtain ⟨hA206, hZ9⟩ := hZ9
            obtain ⟨hO207, hZ9⟩ := hZ9
            obtain ⟨hA211, hZ9⟩ := hZ9
            replace hZ9 := hZ9.2.2.2.2.2.2.2.2.2.2.2.2.2.2
            obtain ⟨-, hE227⟩ := hZ9
            replace hO197 : u195[12]? = (some (q 12, .inr (2, [.ref (q 13), .int y198, .int y199])) : Option (Nat × va_E)) := hO197
            replace hA201 : u195[13]? = (some (q 13, .inl (g 0, (220 : Int32).toNatClampNeg, .inl f200)) : Option (Nat × va_E)) := hA201
            replace hO202 : u195[k4]? = (some (q k4, .inr (2, [.ref (q (k4 + 1)), .int y203, .int y204])) : Option (Nat × va_E)) := hO202
            replace hA206 : u195[k4 + 1]? = (some (q (k4 + 1), .inl (g 0, (68 : Int32).toNatClampNeg, .inl f205)) : Option (Nat × va_E)) := hA206
            replace hO207 : u195[10]? = (some (q 10, .inr (2, [.ref (q 11), .int y208, .int y209])) : Option (Nat × va_E)) := hO207
            replace hA211 : u195[11]? = (some (q 11, .inl (g 0, (220 : Int32).toNatClampNeg, .inl f210)) : Option (Nat × va_E)) := hA211
            obtain ⟨p229, e230⟩ : ∃ z, z = (F_Mil_modulo_a (68 : Int32) (220 : Int32) t2_0 t2_1 t3_0 t16_0 t16_1 t17_0 t0_0 t0_1 t1_0) := ⟨_, rfl⟩
            have e231 : y198 = p229.1 := congrArg (fun z => z.1) (hE227.trans e230.symm)
            have e232 : y199 = p229.2.1 := congrArg (fun z => z.2.1) (hE227.trans e230.symm)
            have e233 : f200 = p229.2.2.1 := congrArg (fun z => z.2.2.1) (hE227.trans e230.symm)
            have e234 : y203 = p229.2.2.2.1 := congrArg (fun z => z.2.2.2.1) (hE227.trans e230.symm)
            have e235 : y204 = p229.2.2.2.2.1 := congrArg (fun z => z.2.2.2.2.1) (hE227.trans e230.symm)
            have e236 : f205 = p229.2.2.2.2.2.1 := congrArg (fun z => z.2.2.2.2.2.1) (hE227.trans e230.symm)
            have e237 : y208 = p229.2.2.2.2.2.2.1 := congrArg (fun z => z.2.2.2.2.2.2.1) (hE227.trans e230.symm)
            have e238 : y209 = p229.2.2.2.2.2.2.2.1 := congrArg (fun z => z.2.2.2.2.2.2.2.1) (hE227.trans e230.symm)
            have e239 : f210 = p229.2.2.2.2.2.2.2.2 := congrArg (fun z => z.2.2.2.2.2.2.2.2) (hE227.trans e230.symm)
            replace hT4 := (hu228 _ (by have z0 := yk4; simp only [List.mem_cons, List.not_mem_nil, or_false, not_or]; omega)).trans hT4
            replace hT5 := (hu228 _ (by have z0 := yk4; simp only [List.mem_cons, List.not_mem_nil, or_false, not_or]; omega)).trans hT5
            replace hT6 := (hu228 _ (by have z0 := yk4; simp only [List.mem_cons, List.not_mem_nil, or_false, not_or]; omega)).trans hT6
            replace hT7 := (hu228 _ (by have z0 := yk4; simp only [List.mem_cons, List.not_mem_nil, or_false, not_or]; omega)).trans hT7
            replace hT8 := (hu228 _ (by have z0 := yk4; simp only [List.mem_cons, List.not_mem_nil, or_false, not_or]; omega)).trans hT8
            replace hT9 := (hu228 _ (by have z0 := yk4; simp only [List.mem_cons, List.not_mem_nil, or_false, not_or]; omega)).trans hT9
            replace hT10 := (hu228 _ (by have z0 := yk4; simp only [List.mem_cons, List.not_mem_nil, or_false, not_or]; omega)).trans hT10
            replace hT11 := (hu228 _ (by have z0 := yk4; simp only [List.mem_cons, List.not_mem_nil, or_false, not_or]; omega)).trans hT11
            replace hT12 := (hu228 _ (by have z0 := yk4; simp only [List.mem_cons, List.not_mem_nil, or_false, not_or]; omega)).trans hT12
            replace hT13 := (hu228 _ (by have z0 := yk4; simp only [List.mem_cons, List.not_mem_nil, or_false, not_or]; omega)).trans hT13
            replace hT14 := (hu228 _ (by have z0 := yk4; simp only [List.mem_cons, List.not_mem_nil, or_false, not_or]; omega)).trans hT14
            replace hT15 := (hu228 _ (by have z0 := yk4; simp only [List.mem_cons, List.not_mem_nil, or_false, not_or]; omega)).trans hT15
            replace hT18 := (hu228 _ (q_nc (by have z0 := yk3; omega) (q_nc (by have z0 := yk3; omega) (q_nc (by have z := ne_k3_k4; omega) (q_nc (by have z := ne_k3_k4p1; omega) (q_nc (by have z0 := yk3; omega) (q_nc (by have z0 := yk3; omega) List.not_mem_nil))))))).trans hT18
            replace hT19 := (hu228 _ (q_nc (by have z0 := yk3; omega) (q_nc (by have z0 := yk3; omega) (q_nc (by have z := ne_k4_k3p1; omega) (q_nc (by have z := ne_k3_k4; omega) (q_nc (by have z0 := yk3; omega) (q_nc (by have z0 := yk3; omega) List.not_mem_nil))))))).trans hT19
            replace hO126 := (hu228 _ (by have z0 := yk4; simp only [List.mem_cons, List.not_mem_nil, or_false, not_or]; omega)).trans hO126
            replace hO193 := (hu228 _ (by have z0 := yk4; simp only [List.mem_cons, List.not_mem_nil, or_false, not_or]; omega)).trans hO193
            replace hF := q_uc hF hu228 (by simp)
            have hR240 := (show F_NH_powerModulo_at_c117 x2 x3 x4 x5 t0_0 t0_1 t1_0 t2_0 t2_1 t3_0 t4_0 t4_1 t5_0 t6_0 t6_1 t7_0 t8_0 t8_1 t9_0 t10_0 t10_1 t11_0 t12_0 t12_1 t13_0 t14_0 t14_1 t15_0 t16_0 t16_1 t17_0 t18_0 t18_1 t19_0 lx88 lx140 p229 = (F_NH_powerModulo_at x2 x3 x4 x5 t0_0 t0_1 t1_0 t2_0 t2_1 t3_0 t4_0 t4_1 t5_0 t6_0 t6_1 t7_0 t8_0 t8_1 t9_0 t10_0 t10_1 t11_0 t12_0 t12_1 t13_0 t14_0 t14_1 t15_0 t16_0 t16_1 t17_0 t18_0 t18_1 t19_0) from Eq.trans (by rw [e230, F_NH_powerModulo_at_J54.eq_1, if_pos c175, if_pos c183]) hR164)
            have hS241 := (show True ∧ S_NH_powerModulo_at_c117 x2 x3 x4 x5 t0_0 t0_1 t1_0 t2_0 t2_1 t3_0 t4_0 t4_1 t5_0 t6_0 t6_1 t7_0 t8_0 t8_1 t9_0 t10_0 t10_1 t11_0 t12_0 t12_1 t13_0 t14_0 t14_1 t15_0 t16_0 t16_1 t17_0 t18_0 t18_1 t19_0 lx88 lx140 p229 from (by rw [e230]; have h := hS165; rw [S_NH_powerModulo_at_J54.eq_1] at h; rw [if_pos c175] at h; replace h := q_s2 h; replace h := q_s2 h; rw [if_pos c183] at h; replace h := q_s2 h; replace h := q_s2 h; replace h := q_s2 h; with_reducible exact h))
            refine lv_aload_n hx hb d_1_10_120 rfl (lv_at hl 0 rfl) ?_
            refine q_get (ci := 0) (j := 6) (v := .ref (q 9)) C0 V i_NH rfl rfl hO126 (by decide) w_430 rfl d_1_10_121 ?_
            refine lv_aload_n hx hb d_1_10_124 rfl (lv_at hl 0 rfl) ?_
            refine q_get (ci := 0) (j := 2) (v := .ref (q 5)) C0 V i_NH rfl rfl hO126 (by decide) w_426 rfl d_1_10_125 ?_
            refine lv_iload_n hx hb d_1_10_128 rfl (lv_at hl 2 rfl) ?_
            have hX245 := n_fx hI (n_s5 g q)
            have hj246 : x3.toNatClampNeg < 10 := by have z := q_clI (i := x3) (x := x3.toInt) rfl (by first | with_reducible exact q_fe ob179 | (have t1 : 0 ≤ x3.toInt := ob179; omega)); have t1 : 0 ≤ x3.toInt := ob179; have t2 : x3.toInt ≤ 9 := ob180; omega
            have hq247 := gk3x3 hj246
            refine q_aald (t := 4) (q := q k3) C0 V hX245 rfl (q_ix (x := x3.toInt) rfl (by first | with_reducible exact q_fe ob179 | (have t1 : 0 ≤ x3.toInt := ob179; omega)) (by have t1 : 0 ≤ x3.toInt := ob179; have t2 : x3.toInt ≤ 9 := ob180; omega)) (by rw [hq247]; exact n_fwv hj246) d_1_10_129 ?_
            refine lv_aload_n hx hb d_1_10_130 rfl (lv_at hl 0 rfl) ?_
            refine q_get (ci := 0) (j := 2) (v := .ref (q 5)) C0 V i_NH rfl rfl hO126 (by decide) w_426 rfl d_1_10_131 ?_
            refine lv_iload_n hx hb d_1_10_134 rfl (lv_at hl 3 rfl) ?_
            have hX248 := n_fx hI (n_s5 g q)
            have hj249 : x4.toNatClampNeg < 10 := by have z := q_clI (i := x4) (x := x4.toInt) rfl (by first | with_reducible exact q_fe ob128 | (have t1 : 0 ≤ x4.toInt := ob128; omega)); have t1 : 0 ≤ x4.toInt := ob128; have t2 : x4.toInt ≤ 9 := ob129; omega
            have hq250 := gk4x4 hj249
            refine q_aald (t := 4) (q := q k4) C0 V hX248 rfl (q_ix (x := x4.toInt) rfl (by first | with_reducible exact q_fe ob128 | (have t1 : 0 ≤ x4.toInt := ob128; omega)) (by have t1 : 0 ≤ x4.toInt := ob128; have t2 : x4.toInt ≤ 9 := ob129; omega)) (by rw [hq250]; exact n_fwv hj249) d_1_10_135 ?_
            have ob251 : True ∧ S_Mil_powerBelow (68 : Int32) (68 : Int32) y208 y209 f210 y198 y199 f200 t4_0 t4_1 t5_0 t6_0 t6_1 t7_0 t18_0 t18_1 t19_0 y203 y204 f205 := (by rw [e239, e238, e237, e236, e235, e234, e233, e232, e231]; have h := hS241; rw [S_NH_powerModulo_at_c117.eq_1] at h; with_reducible exact h.2.1)
            refine q_gov V (q_runV (As := [.ref (q k3), .ref (q k4)]) (rest := []) (d := 5) (mc := 0) (ms := 0) (ci := 4) C0 V rfl LV_NH_266 (X_Mil_powerBelow l D g q u195 k3 68 hBk3 (Or.inr yk3) k4 68 hBk4 (Or.inr yk4)  (by have z0 := yk3; omega) (by have z0 := yk3; omega) (by have z0 := yk3; omega) (by have z0 := yk3; omega) (by have z0 := yk3; omega) (by have z0 := yk3; omega) (by have z0 := yk3; omega) (by have z0 := yk3; omega) (by have z0 := yk3; omega) (by have z0 := yk3; omega) (by have z0 := yk3; omega) (by have z0 := yk3; omega) (by have z0 := yk4; omega) (by have z0 := yk4; omega) (by have z0 := yk4; omega) (by have z0 := yk4; omega) (by have z0 := yk4; omega) (by have z0 := yk4; omega) (by have z0 := yk4; omega) (by have z0 := yk4; omega) (by have z0 := yk4; omega) (by have z0 := yk4; omega) (by have z0 := yk4; omega) (by have z0 := yk4; omega) (by have z := ne_k3_k4; omega) hI y208 y209 hO207 f210 hA211 y198 y199 hO197 f200 hA201 t4_0 t4_1 hT4 t5_0 hT5 t6_0 t6_1 hT6 t7_0 hT7 t18_0 t18_1 hT18 t19_0 hT19 y203 y204 hO202 f205 hA206 ob251 _) rfl rfl hO193 rfl hl.1 rfl (Nat.le_of_ble_eq_true rfl) ⟨by decide, by decide⟩ ⟨Nat.le_of_ble_eq_true rfl, Nat.le_of_ble_eq_true rfl⟩ d_1_10_136) (fun u252 H locs hp253 V => ?_)
            obtain ⟨hI, hZ9⟩ := hp253
            obtain ⟨hu299, hZ9⟩ := hZ9
            obtain ⟨y255, hZ9⟩ := hZ9
            obtain ⟨y256, hZ9⟩ := hZ9
            obtain ⟨f257, hZ9⟩ := hZ9
            obtain ⟨y260, hZ9⟩ := hZ9
            obtain ⟨y261, hZ9⟩ := hZ9
            obtain ⟨f262, hZ9⟩ := hZ9
            obtain ⟨y265, hZ9⟩ := hZ9
            obtain ⟨y266, hZ9⟩ := hZ9
            obtain ⟨f267, hZ9⟩ := hZ9
            obtain ⟨y270, hZ9⟩ := hZ9
            obtain ⟨y271, hZ9⟩ := hZ9
            obtain ⟨f272, hZ9⟩ := hZ9
            obtain ⟨y275, hZ9⟩ := hZ9
            obtain ⟨y276, hZ9⟩ := hZ9
            obtain ⟨f277, hZ9⟩ := hZ9
            obtain ⟨hO254, hZ9⟩ := hZ9
            obtain ⟨hA258, hZ9⟩ := hZ9
            obtain ⟨hO259, hZ9⟩ := hZ9
            obtain ⟨hA263, hZ9⟩ := hZ9
            obtain ⟨hO264, hZ9⟩ := hZ9
            obtain ⟨hA268, hZ9⟩ := hZ9
            obtain ⟨hO269, hZ9⟩ := hZ9
            obtain ⟨hA273, hZ9⟩ := hZ9
            obtain ⟨hO274, hZ9⟩ := hZ9
            obtain ⟨hA278, hZ9⟩ := hZ9
            obtain ⟨b279, hZ9⟩ := hZ9
            obtain ⟨b280, hZ9⟩ := hZ9
            replace hZ9 := hZ9.2
            obtain ⟨b282, hZ9⟩ := hZ9
            obtain ⟨b283, hZ9⟩ := hZ9
            obtain ⟨b284, hZ9⟩ := hZ9
            obtain ⟨b285, hZ9⟩ := hZ9
            obtain ⟨b286, hZ9⟩ := hZ9
            obtain ⟨b287, hZ9⟩ := hZ9
            obtain ⟨b288, hZ9⟩ := hZ9
            obtain ⟨b289, hZ9⟩ := hZ9
            obtain ⟨b290, hZ9⟩ := hZ9
            obtain ⟨b291, hZ9⟩ := hZ9
            obtain ⟨b292, hZ9⟩ := hZ9
            obtain ⟨b293, hZ9⟩ := hZ9
            obtain ⟨b294, hZ9⟩ := hZ9
            replace hZ9 := hZ9.2.2
            obtain ⟨-, hE298⟩ := hZ9
            replace hO254 : u252[10]? = (some (q 10, .inr (2, [.ref (q 11), .int y255, .int y256])) : Option (Nat × va_E)) := hO254
            replace hA258 : u252[11]? = (some (q 11, .inl (g 0, (220 : Int32).toNatClampNeg, .inl f257)) : Option (Nat × va_E)) := hA258
            replace hO259 : u252[12]? = (some (q 12, .inr (2, [.ref (q 13), .int y260, .int y261])) : Option (Nat × va_E)) := hO259
            replace hA263 : u252[13]? = (some (q 13, .inl (g 0, (220 : Int32).toNatClampNeg, .inl f262)) : Option (Nat × va_E)) := hA263
            replace hO264 : u252[14]? = (some (q 14, .inr (2, [.ref (q 15), .int y265, .int y266])) : Option (Nat × va_E)) := hO264
            replace hA268 : u252[15]? = (some (q 15, .inl (g 0, (220 : Int32).toNatClampNeg, .inl f267)) : Option (Nat × va_E)) := hA268
            replace hO269 : u252[18]? = (some (q 18, .inr (2, [.ref (q 19), .int y270, .int y271])) : Option (Nat × va_E)) := hO269
            replace hA273 : u252[19]? = (some (q 19, .inl (g 0, (220 : Int32).toNatClampNeg, .inl f272)) : Option (Nat × va_E)) := hA273
            replace hO274 : u252[k4]? = (some (q k4, .inr (2, [.ref (q (k4 + 1)), .int y275, .int y276])) : Option (Nat × va_E)) := hO274
            replace hA278 : u252[k4 + 1]? = (some (q (k4 + 1), .inl (g 0, (68 : Int32).toNatClampNeg, .inl f277)) : Option (Nat × va_E)) := hA278
            obtain ⟨p300, e301⟩ : ∃ z, z = (F_Mil_powerBelow (68 : Int32) (68 : Int32) y208 y209 f210 y198 y199 f200 t4_0 t4_1 t5_0 t6_0 t6_1 t7_0 t18_0 t18_1 t19_0 y203 y204 f205) := ⟨_, rfl⟩
            have e302 : y255 = p300.1 := congrArg (fun z => z.1) (hE298.trans e301.symm)
            have e303 : y256 = p300.2.1 := congrArg (fun z => z.2.1) (hE298.trans e301.symm)
            have e304 : f257 = p300.2.2.1 := congrArg (fun z => z.2.2.1) (hE298.trans e301.symm)
            have e305 : y260 = p300.2.2.2.1 := congrArg (fun z => z.2.2.2.1) (hE298.trans e301.symm)
            have e306 : y261 = p300.2.2.2.2.1 := congrArg (fun z => z.2.2.2.2.1) (hE298.trans e301.symm)
            have e307 : f262 = p300.2.2.2.2.2.1 := congrArg (fun z => z.2.2.2.2.2.1) (hE298.trans e301.symm)
            have e308 : y265 = p300.2.2.2.2.2.2.1 := congrArg (fun z => z.2.2.2.2.2.2.1) (hE298.trans e301.symm)
            have e309 : y266 = p300.2.2.2.2.2.2.2.1 := congrArg (fun z => z.2.2.2.2.2.2.2.1) (hE298.trans e301.symm)
            have e310 : f267 = p300.2.2.2.2.2.2.2.2.1 := congrArg (fun z => z.2.2.2.2.2.2.2.2.1) (hE298.trans e301.symm)
            have e311 : y270 = p300.2.2.2.2.2.2.2.2.2.1 := congrArg (fun z => z.2.2.2.2.2.2.2.2.2.1) (hE298.trans e301.symm)
            have e312 : y271 = p300.2.2.2.2.2.2.2.2.2.2.1 := congrArg (fun z => z.2.2.2.2.2.2.2.2.2.2.1) (hE298.trans e301.symm)
            have e313 : f272 = p300.2.2.2.2.2.2.2.2.2.2.2.1 := congrArg (fun z => z.2.2.2.2.2.2.2.2.2.2.2.1) (hE298.trans e301.symm)
            have e314 : y275 = p300.2.2.2.2.2.2.2.2.2.2.2.2.1 := congrArg (fun z => z.2.2.2.2.2.2.2.2.2.2.2.2.1) (hE298.trans e301.symm)
            have e315 : y276 = p300.2.2.2.2.2.2.2.2.2.2.2.2.2.1 := congrArg (fun z => z.2.2.2.2.2.2.2.2.2.2.2.2.2.1) (hE298.trans e301.symm)
            have e316 : f277 = p300.2.2.2.2.2.2.2.2.2.2.2.2.2.2 := congrArg (fun z => z.2.2.2.2.2.2.2.2.2.2.2.2.2.2) (hE298.trans e301.symm)
            replace b279 : q_F (0 ≤ y261.toInt) := b279
            replace b280 : q_F (y261.toInt ≤ 0) := b280
            replace b282 : q_F (y261.toInt ≤ y255.toInt) := b282
            replace b283 : q_F (y255.toInt ≤ y265.toInt) := b283
            replace b284 : q_F (y266.toInt ≤ y256.toInt) := b284
            replace b285 : q_F (y256.toInt ≤ y266.toInt) := b285
            replace b286 : q_F (y261.toInt ≤ y260.toInt) := b286
            replace b287 : q_F (y260.toInt ≤ y261.toInt + 220) := b287
            replace b288 : q_F (y265.toInt ≤ y261.toInt + 220) := b288
            replace b289 : q_F (y266.toInt ≤ y261.toInt + 1) := b289
            replace b290 : q_F (y261.toInt ≤ y266.toInt) := b290
            replace b291 : q_F (y270.toInt ≤ y261.toInt + 220) := b291
            replace b292 : q_F (y261.toInt ≤ y270.toInt) := b292
            replace b293 : q_F (y271.toInt ≤ y261.toInt + 1) := b293
            replace b294 : q_F (y261.toInt ≤ y271.toInt) := b294
            replace hT8 := (hu299 _ (by have z0 := yk4; simp only [List.mem_cons, List.not_mem_nil, or_false, not_or]; omega)).trans hT8
            replace hT9 := (hu299 _ (by have z0 := yk4; simp only [List.mem_cons, List.not_mem_nil, or_false, not_or]; omega)).trans hT9
            replace hT10 := (hu299 _ (by have z0 := yk4; simp only [List.mem_cons, List.not_mem_nil, or_false, not_or]; omega)).trans hT10
            replace hT11 := (hu299 _ (by have z0 := yk4; simp only [List.mem_cons, List.not_mem_nil, or_false, not_or]; omega)).trans hT11
            replace hT12 := (hu299 _ (by have z0 := yk4; simp only [List.mem_cons, List.not_mem_nil, or_false, not_or]; omega)).trans hT12
            replace hT13 := (hu299 _ (by have z0 := yk4; simp only [List.mem_cons, List.not_mem_nil, or_false, not_or]; omega)).trans hT13
            replace hT14 := (hu299 _ (by have z0 := yk4; simp only [List.mem_cons, List.not_mem_nil, or_false, not_or]; omega)).trans hT14
            replace hT15 := (hu299 _ (by have z0 := yk4; simp only [List.mem_cons, List.not_mem_nil, or_false, not_or]; omega)).trans hT15
            replace hO126 := (hu299 _ (by have z0 := yk4; simp only [List.mem_cons, List.not_mem_nil, or_false, not_or]; omega)).trans hO126
            replace hF := q_uc hF hu299 (by simp)
            have hR317 := (show F_NH_powerModulo_at_c136 x2 x3 x4 x5 t0_0 t0_1 t1_0 t2_0 t2_1 t3_0 t4_0 t4_1 t5_0 t6_0 t6_1 t7_0 t8_0 t8_1 t9_0 t10_0 t10_1 t11_0 t12_0 t12_1 t13_0 t14_0 t14_1 t15_0 t16_0 t16_1 t17_0 t18_0 t18_1 t19_0 lx88 lx140 p229 p300 = (F_NH_powerModulo_at x2 x3 x4 x5 t0_0 t0_1 t1_0 t2_0 t2_1 t3_0 t4_0 t4_1 t5_0 t6_0 t6_1 t7_0 t8_0 t8_1 t9_0 t10_0 t10_1 t11_0 t12_0 t12_1 t13_0 t14_0 t14_1 t15_0 t16_0 t16_1 t17_0 t18_0 t18_1 t19_0) from Eq.trans (by rw [e301, e239, e238, e237, e236, e235, e234, e233, e232, e231, F_NH_powerModulo_at_c117.eq_1]) hR240)
            have hS318 := (show True ∧ S_NH_powerModulo_at_c136 x2 x3 x4 x5 t0_0 t0_1 t1_0 t2_0 t2_1 t3_0 t4_0 t4_1 t5_0 t6_0 t6_1 t7_0 t8_0 t8_1 t9_0 t10_0 t10_1 t11_0 t12_0 t12_1 t13_0 t14_0 t14_1 t15_0 t16_0 t16_1 t17_0 t18_0 t18_1 t19_0 lx88 lx140 p229 p300 from (by rw [e301, e239, e238, e237, e236, e235, e234, e233, e232, e231]; have h := hS241; rw [S_NH_powerModulo_at_c117.eq_1] at h; replace h := q_s2 h; with_reducible exact h))
            refine lv_aload_n hx hb d_1_10_139 rfl (lv_at hl 0 rfl) ?_
            refine lv_iload hx hb d_1_10_140 (lv_at hl 4 rfl) ?_
            have ob322 : True ∧ S_NH_keepWhole x5 y255 y256 f257 y275 y276 f277 := (by rw [e316, e315, e314, e304, e303, e302]; have h := hS318; rw [S_NH_powerModulo_at_c136.eq_1] at h; with_reducible exact h.2.1)
            refine q_goxv V (q_runVX (As := [.int x5]) (rest := []) (d := 8) (mc := 1) (ms := 6) (ci := 0) C0 V rfl LV_NH_243 (X_NH_keepWhole l D g q u252  x5 k4 hBk4 yk4 gk4x5 hlt hI y255 y256 hO254 f257 hA258 y275 y276 hO274 f277 hA278 ob322 _) rfl rfl hO126 rfl hl.1 rfl (Nat.le_of_ble_eq_true rfl) ⟨by decide, by decide⟩ ⟨Nat.le_of_ble_eq_true rfl, Nat.le_of_ble_eq_true rfl⟩ d_1_10_142) (fun qx Ex ce u323 H locs hp324 V hce hcv hcl => ?_) (fun u323 H locs hp324 V => ?_)
            ·
              obtain ⟨cx331, hZ9⟩ := hp324
              obtain ⟨he332, hZ9⟩ := hZ9
              obtain ⟨hc333, hZ9⟩ := hZ9
              obtain ⟨hI, hZ9⟩ := hZ9
              obtain ⟨hu334, hZ9⟩ := hZ9
              obtain ⟨y326, hZ9⟩ := hZ9
              obtain ⟨y327, hZ9⟩ := hZ9
              obtain ⟨f328, hZ9⟩ := hZ9
              obtain ⟨hO325, hZ9⟩ := hZ9
              obtain ⟨hA329, hE330⟩ := hZ9
              replace hO325 : u323[k4]? = (some (q k4, .inr (2, [.ref (q (k4 + 1)), .int y326, .int y327])) : Option (Nat × va_E)) := hO325
              replace hA329 : u323[k4 + 1]? = (some (q (k4 + 1), .inl (g 0, (68 : Int32).toNatClampNeg, .inl f328)) : Option (Nat × va_E)) := hA329
              obtain ⟨p335, e336⟩ : ∃ z, z = (F_NH_keepWhole x5 y255 y256 f257 y275 y276 f277) := ⟨_, rfl⟩
              have c337 : ¬ p335.1 = (0 : Int32) := fun z => hc333 (((congrArg (fun z => z.1) (hE330.trans e336.symm)) : cx331 = _).trans z)
              have e338 : y326 = p335.2.1 := congrArg (fun z => z.2.1) (hE330.trans e336.symm)
              have e339 : y327 = p335.2.2.1 := congrArg (fun z => z.2.2.1) (hE330.trans e336.symm)
              have e340 : f328 = p335.2.2.2 := congrArg (fun z => z.2.2.2) (hE330.trans e336.symm)
              replace hO254 := (hu334 _ (by have z0 := yk4; simp only [List.mem_cons, List.not_mem_nil, or_false, not_or]; omega)).trans hO254
              replace hA258 := (hu334 _ (by have z0 := yk4; simp only [List.mem_cons, List.not_mem_nil, or_false, not_or]; omega)).trans hA258
              replace hO259 := (hu334 _ (by have z0 := yk4; simp only [List.mem_cons, List.not_mem_nil, or_false, not_or]; omega)).trans hO259
              replace hA263 := (hu334 _ (by have z0 := yk4; simp only [List.mem_cons, List.not_mem_nil, or_false, not_or]; omega)).trans hA263
              replace hO264 := (hu334 _ (by have z0 := yk4; simp only [List.mem_cons, List.not_mem_nil, or_false, not_or]; omega)).trans hO264
              replace hA268 := (hu334 _ (by have z0 := yk4; simp only [List.mem_cons, List.not_mem_nil, or_false, not_or]; omega)).trans hA268
              replace hO269 := (hu334 _ (by have z0 := yk4; simp only [List.mem_cons, List.not_mem_nil, or_false, not_or]; omega)).trans hO269
              replace hA273 := (hu334 _ (by have z0 := yk4; simp only [List.mem_cons, List.not_mem_nil, or_false, not_or]; omega)).trans hA273
              replace hT8 := (hu334 _ (by have z0 := yk4; simp only [List.mem_cons, List.not_mem_nil, or_false, not_or]; omega)).trans hT8
              replace hT9 := (hu334 _ (by have z0 := yk4; simp only [List.mem_cons, List.not_mem_nil, or_false, not_or]; omega)).trans hT9
              replace hT10 := (hu334 _ (by have z0 := yk4; simp only [List.mem_cons, List.not_mem_nil, or_false, not_or]; omega)).trans hT10
              replace hT11 := (hu334 _ (by have z0 := yk4; simp only [List.mem_cons, List.not_mem_nil, or_false, not_or]; omega)).trans hT11
              replace hT12 := (hu334 _ (by have z0 := yk4; simp only [List.mem_cons, List.not_mem_nil, or_false, not_or]; omega)).trans hT12
              replace hT13 := (hu334 _ (by have z0 := yk4; simp only [List.mem_cons, List.not_mem_nil, or_false, not_or]; omega)).trans hT13
              replace hT14 := (hu334 _ (by have z0 := yk4; simp only [List.mem_cons, List.not_mem_nil, or_false, not_or]; omega)).trans hT14
              replace hT15 := (hu334 _ (by have z0 := yk4; simp only [List.mem_cons, List.not_mem_nil, or_false, not_or]; omega)).trans hT15
              replace hF := q_uc hF hu334 (by simp)
              have hR341 := (show F_NH_powerModulo_at_c142 x2 x3 x4 x5 t0_0 t0_1 t1_0 t2_0 t2_1 t3_0 t4_0 t4_1 t5_0 t6_0 t6_1 t7_0 t8_0 t8_1 t9_0 t10_0 t10_1 t11_0 t12_0 t12_1 t13_0 t14_0 t14_1 t15_0 t16_0 t16_1 t17_0 t18_0 t18_1 t19_0 lx88 lx140 p229 p300 y255 y256 f257 y260 y261 f262 y265 y266 f267 y270 y271 f272 p335 = (F_NH_powerModulo_at x2 x3 x4 x5 t0_0 t0_1 t1_0 t2_0 t2_1 t3_0 t4_0 t4_1 t5_0 t6_0 t6_1 t7_0 t8_0 t8_1 t9_0 t10_0 t10_1 t11_0 t12_0 t12_1 t13_0 t14_0 t14_1 t15_0 t16_0 t16_1 t17_0 t18_0 t18_1 t19_0) from Eq.trans (by rw [e336, e316, e315, e314, e313, e312, e311, e310, e309, e308, e307, e306, e305, e304, e303, e302, F_NH_powerModulo_at_c136.eq_1]) hR317)
              have hS342 := (show True ∧ S_NH_powerModulo_at_c142 x2 x3 x4 x5 t0_0 t0_1 t1_0 t2_0 t2_1 t3_0 t4_0 t4_1 t5_0 t6_0 t6_1 t7_0 t8_0 t8_1 t9_0 t10_0 t10_1 t11_0 t12_0 t12_1 t13_0 t14_0 t14_1 t15_0 t16_0 t16_1 t17_0 t18_0 t18_1 t19_0 lx88 lx140 p229 p300 y255 y256 f257 y260 y261 f262 y265 y266 f267 y270 y271 f272 p335 from (by rw [e336, e316, e315, e314, e313, e312, e311, e310, e309, e308, e307, e306, e305, e304, e303, e302]; have h := hS318; rw [S_NH_powerModulo_at_c136.eq_1] at h; replace h := q_s2 h; with_reducible exact h))
              exact q_outT hno C0 V (⟨p335.1, (he332.trans (congrArg qE ((congrArg (fun z => z.1) (hE330.trans e336.symm)) : cx331 = _))), c337, hI, hF, y255, y256, f257, y260, y261, f262, y265, y266, f267, y270, y271, f272, t8_0, t8_1, t9_0, t10_0, t10_1, t11_0, t12_0, t12_1, t13_0, t14_0, t14_1, t15_0, y326, y327, f328, hO254, hA258, hO259, hA263, hO264, hA268, hO269, hA273, hT8, hT9, hT10, hT11, hT12, hT13, hT14, hT15, hO325, hA329, (show (p335.1, y255, y256, f257, y260, y261, f262, y265, y266, f267, y270, y271, f272, t8_0, t8_1, t9_0, t10_0, t10_1, t11_0, t12_0, t12_1, t13_0, t14_0, t14_1, t15_0, y326, y327, f328) = (F_NH_powerModulo_at x2 x3 x4 x5 t0_0 t0_1 t1_0 t2_0 t2_1 t3_0 t4_0 t4_1 t5_0 t6_0 t6_1 t7_0 t8_0 t8_1 t9_0 t10_0 t10_1 t11_0 t12_0 t12_1 t13_0 t14_0 t14_1 t15_0 t16_0 t16_1 t17_0 t18_0 t18_1 t19_0) from Eq.trans (by rw [e340, e339, e338, F_NH_powerModulo_at_c142.eq_1, if_neg c337]) hR341)⟩) hce hcv hcl (Nat.le_of_ble_eq_true rfl) (Nat.le_of_ble_eq_true rfl)
            ·
              obtain ⟨hI, hZ9⟩ := hp324
              obtain ⟨hu361, hZ9⟩ := hZ9
              obtain ⟨y347, hZ9⟩ := hZ9
              obtain ⟨y348, hZ9⟩ := hZ9
              obtain ⟨f349, hZ9⟩ := hZ9
              obtain ⟨hO346, hZ9⟩ := hZ9
              obtain ⟨hA350, hZ9⟩ := hZ9
              obtain ⟨b351, hZ9⟩ := hZ9
              obtain ⟨b352, hZ9⟩ := hZ9
              obtain ⟨b353, hZ9⟩ := hZ9
              obtain ⟨b354, hZ9⟩ := hZ9
              obtain ⟨b355, hZ9⟩ := hZ9
              obtain ⟨b356, hZ9⟩ := hZ9
              obtain ⟨b357, hZ9⟩ := hZ9
              obtain ⟨b358, hZ9⟩ := hZ9
              obtain ⟨b359, hE360⟩ := hZ9
              replace hO346 : u323[k4]? = (some (q k4, .inr (2, [.ref (q (k4 + 1)), .int y347, .int y348])) : Option (Nat × va_E)) := hO346
              replace hA350 : u323[k4 + 1]? = (some (q (k4 + 1), .inl (g 0, (68 : Int32).toNatClampNeg, .inl f349)) : Option (Nat × va_E)) := hA350
              obtain ⟨p335, e336⟩ : ∃ z, z = (F_NH_keepWhole x5 y255 y256 f257 y275 y276 f277) := ⟨_, rfl⟩
              have c337 : p335.1 = (0 : Int32) := ((congrArg (fun z => z.1) (hE360.trans e336.symm)) : (0 : Int32) = _).symm
              have e363 : y347 = p335.2.1 := congrArg (fun z => z.2.1) (hE360.trans e336.symm)
              have e364 : y348 = p335.2.2.1 := congrArg (fun z => z.2.2.1) (hE360.trans e336.symm)
              have e365 : f349 = p335.2.2.2 := congrArg (fun z => z.2.2.2) (hE360.trans e336.symm)
              replace b351 : q_F (0 ≤ y347.toInt) := b351
              replace b352 : q_F (y347.toInt ≤ 68) := b352
              replace b353 : q_F (x5.toInt ≤ y347.toInt + 9) := b353
              replace b354 : q_F (y347.toInt ≤ x5.toInt + 68) := b354
              replace b355 : q_F (y347.toInt ≤ y255.toInt) := b355
              replace b356 : q_F (x5.toInt ≤ y348.toInt + 9) := b356
              replace b357 : q_F (y348.toInt ≤ x5.toInt + 1) := b357
              replace b358 : q_F (y256.toInt ≤ y348.toInt) := b358
              replace b359 : q_F (y348.toInt ≤ y256.toInt) := b359
              replace hO254 := (hu361 _ (by have z0 := yk4; simp only [List.mem_cons, List.not_mem_nil, or_false, not_or]; omega)).trans hO254
              replace hA258 := (hu361 _ (by have z0 := yk4; simp only [List.mem_cons, List.not_mem_nil, or_false, not_or]; omega)).trans hA258
              replace hO259 := (hu361 _ (by have z0 := yk4; simp only [List.mem_cons, List.not_mem_nil, or_false, not_or]; omega)).trans hO259
              replace hA263 := (hu361 _ (by have z0 := yk4; simp only [List.mem_cons, List.not_mem_nil, or_false, not_or]; omega)).trans hA263
              replace hO264 := (hu361 _ (by have z0 := yk4; simp only [List.mem_cons, List.not_mem_nil, or_false, not_or]; omega)).trans hO264
              replace hA268 := (hu361 _ (by have z0 := yk4; simp only [List.mem_cons, List.not_mem_nil, or_false, not_or]; omega)).trans hA268
              replace hO269 := (hu361 _ (by have z0 := yk4; simp only [List.mem_cons, List.not_mem_nil, or_false, not_or]; omega)).trans hO269
              replace hA273 := (hu361 _ (by have z0 := yk4; simp only [List.mem_cons, List.not_mem_nil, or_false, not_or]; omega)).trans hA273
              replace hT8 := (hu361 _ (by have z0 := yk4; simp only [List.mem_cons, List.not_mem_nil, or_false, not_or]; omega)).trans hT8
              replace hT9 := (hu361 _ (by have z0 := yk4; simp only [List.mem_cons, List.not_mem_nil, or_false, not_or]; omega)).trans hT9
              replace hT10 := (hu361 _ (by have z0 := yk4; simp only [List.mem_cons, List.not_mem_nil, or_false, not_or]; omega)).trans hT10
              replace hT11 := (hu361 _ (by have z0 := yk4; simp only [List.mem_cons, List.not_mem_nil, or_false, not_or]; omega)).trans hT11
              replace hT12 := (hu361 _ (by have z0 := yk4; simp only [List.mem_cons, List.not_mem_nil, or_false, not_or]; omega)).trans hT12
              replace hT13 := (hu361 _ (by have z0 := yk4; simp only [List.mem_cons, List.not_mem_nil, or_false, not_or]; omega)).trans hT13
              replace hT14 := (hu361 _ (by have z0 := yk4; simp only [List.mem_cons, List.not_mem_nil, or_false, not_or]; omega)).trans hT14
              replace hT15 := (hu361 _ (by have z0 := yk4; simp only [List.mem_cons, List.not_mem_nil, or_false, not_or]; omega)).trans hT15
              replace hF := q_uc hF hu361 (by simp)
              have hR341 := (show F_NH_powerModulo_at_c142 x2 x3 x4 x5 t0_0 t0_1 t1_0 t2_0 t2_1 t3_0 t4_0 t4_1 t5_0 t6_0 t6_1 t7_0 t8_0 t8_1 t9_0 t10_0 t10_1 t11_0 t12_0 t12_1 t13_0 t14_0 t14_1 t15_0 t16_0 t16_1 t17_0 t18_0 t18_1 t19_0 lx88 lx140 p229 p300 y255 y256 f257 y260 y261 f262 y265 y266 f267 y270 y271 f272 p335 = (F_NH_powerModulo_at x2 x3 x4 x5 t0_0 t0_1 t1_0 t2_0 t2_1 t3_0 t4_0 t4_1 t5_0 t6_0 t6_1 t7_0 t8_0 t8_1 t9_0 t10_0 t10_1 t11_0 t12_0 t12_1 t13_0 t14_0 t14_1 t15_0 t16_0 t16_1 t17_0 t18_0 t18_1 t19_0) from Eq.trans (by rw [e336, e316, e315, e314, e313, e312, e311, e310, e309, e308, e307, e306, e305, e304, e303, e302, F_NH_powerModulo_at_c136.eq_1]) hR317)
              have hS342 := (show True ∧ S_NH_powerModulo_at_c142 x2 x3 x4 x5 t0_0 t0_1 t1_0 t2_0 t2_1 t3_0 t4_0 t4_1 t5_0 t6_0 t6_1 t7_0 t8_0 t8_1 t9_0 t10_0 t10_1 t11_0 t12_0 t12_1 t13_0 t14_0 t14_1 t15_0 t16_0 t16_1 t17_0 t18_0 t18_1 t19_0 lx88 lx140 p229 p300 y255 y256 f257 y260 y261 f262 y265 y266 f267 y270 y271 f272 p335 from (by rw [e336, e316, e315, e314, e313, e312, e311, e310, e309, e308, e307, e306, e305, e304, e303, e302]; have h := hS318; rw [S_NH_powerModulo_at_c136.eq_1] at h; replace h := q_s2 h; with_reducible exact h))
              refine W.widen (k := 4) (n := 24) (Nat.le_of_ble_eq_true rfl) (Nat.le_of_ble_eq_true rfl) ?_
              exact q_retX (q_retv C0 V (⟨hI, hF, y255, y256, f257, y260, y261, f262, y265, y266, f267, y270, y271, f272, t8_0, t8_1, t9_0, t10_0, t10_1, t11_0, t12_0, t12_1, t13_0, t14_0, t14_1, t15_0, y347, y348, f349, hO254, hA258, hO259, hA263, hO264, hA268, hO269, hA273, hT8, hT9, hT10, hT11, hT12, hT13, hT14, hT15, hO346, hA350, (show 0 ≤ y255.toInt from (by have t1 : 0 ≤ y261.toInt := b279; have t2 : y261.toInt ≤ y255.toInt := b282; omega)), (show y255.toInt ≤ 220 from (by have t1 : y261.toInt ≤ 0 := b280; have t2 : y255.toInt ≤ y265.toInt := b283; have t3 : y265.toInt ≤ y261.toInt + 220 := b288; omega)), (show 0 ≤ y256.toInt from (by have t1 : 0 ≤ y261.toInt := b279; have t2 : y266.toInt ≤ y256.toInt := b284; have t3 : y261.toInt ≤ y266.toInt := b290; omega)), (show y256.toInt ≤ 1 from (by have t1 : y261.toInt ≤ 0 := b280; have t2 : y256.toInt ≤ y266.toInt := b285; have t3 : y266.toInt ≤ y261.toInt + 1 := b289; omega)), (show 0 ≤ y260.toInt from (by have t1 : 0 ≤ y261.toInt := b279; have t2 : y261.toInt ≤ y260.toInt := b286; omega)), (show y260.toInt ≤ 220 from (by have t1 : y261.toInt ≤ 0 := b280; have t2 : y260.toInt ≤ y261.toInt + 220 := b287; omega)), (show 0 ≤ y261.toInt from (by first | with_reducible exact q_fe b279 | (have t1 : 0 ≤ y261.toInt := b279; omega))), (show y261.toInt ≤ 0 from (by first | with_reducible exact q_fe b280 | (have t1 : y261.toInt ≤ 0 := b280; omega))), (show 0 ≤ y265.toInt from (by have t1 : 0 ≤ y261.toInt := b279; have t2 : y261.toInt ≤ y255.toInt := b282; have t3 : y255.toInt ≤ y265.toInt := b283; omega)), (show y265.toInt ≤ 220 from (by have t1 : y261.toInt ≤ 0 := b280; have t2 : y265.toInt ≤ y261.toInt + 220 := b288; omega)), (show 0 ≤ y266.toInt from (by have t1 : 0 ≤ y261.toInt := b279; have t2 : y261.toInt ≤ y266.toInt := b290; omega)), (show y266.toInt ≤ 1 from (by have t1 : y261.toInt ≤ 0 := b280; have t2 : y266.toInt ≤ y261.toInt + 1 := b289; omega)), (show 0 ≤ y270.toInt from (by have t1 : 0 ≤ y261.toInt := b279; have t2 : y261.toInt ≤ y270.toInt := b292; omega)), (show y270.toInt ≤ 220 from (by have t1 : y261.toInt ≤ 0 := b280; have t2 : y270.toInt ≤ y261.toInt + 220 := b291; omega)), (show 0 ≤ y271.toInt from (by have t1 : 0 ≤ y261.toInt := b279; have t2 : y261.toInt ≤ y271.toInt := b294; omega)), (show y271.toInt ≤ 1 from (by have t1 : y261.toInt ≤ 0 := b280; have t2 : y271.toInt ≤ y261.toInt + 1 := b293; omega)), (show 0 ≤ t8_0.toInt from (by first | with_reducible exact (q_fe btt8_0).2 | with_reducible exact (q_fe btt8_0).1 | (have t1 : 0 ≤ t8_0.toInt ∧ t8_0.toInt ≤ 220 := btt8_0; omega))), (show t8_0.toInt ≤ 220 from (by first | with_reducible exact (q_fe btt8_0).2 | with_reducible exact (q_fe btt8_0).1 | (have t1 : 0 ≤ t8_0.toInt ∧ t8_0.toInt ≤ 220 := btt8_0; omega))), (show 0 ≤ t8_1.toInt from (by first | with_reducible exact (q_fe btt8_1).2 | with_reducible exact (q_fe btt8_1).1 | (have t1 : 0 ≤ t8_1.toInt ∧ t8_1.toInt ≤ 1 := btt8_1; omega))), (show t8_1.toInt ≤ 1 from (by first | with_reducible exact (q_fe btt8_1).2 | with_reducible exact (q_fe btt8_1).1 | (have t1 : 0 ≤ t8_1.toInt ∧ t8_1.toInt ≤ 1 := btt8_1; omega))), (show 0 ≤ t10_0.toInt from (by first | with_reducible exact (q_fe btt10_0).2 | with_reducible exact (q_fe btt10_0).1 | (have t1 : 0 ≤ t10_0.toInt ∧ t10_0.toInt ≤ 220 := btt10_0; omega))), (show t10_0.toInt ≤ 220 from (by first | with_reducible exact (q_fe btt10_0).2 | with_reducible exact (q_fe btt10_0).1 | (have t1 : 0 ≤ t10_0.toInt ∧ t10_0.toInt ≤ 220 := btt10_0; omega))), (show 0 ≤ t10_1.toInt from (by first | with_reducible exact (q_fe btt10_1).2 | with_reducible exact (q_fe btt10_1).1 | (have t1 : 0 ≤ t10_1.toInt ∧ t10_1.toInt ≤ 1 := btt10_1; omega))), (show t10_1.toInt ≤ 1 from (by first | with_reducible exact (q_fe btt10_1).2 | with_reducible exact (q_fe btt10_1).1 | (have t1 : 0 ≤ t10_1.toInt ∧ t10_1.toInt ≤ 1 := btt10_1; omega))), (show 0 ≤ t12_0.toInt from (by first | with_reducible exact (q_fe btt12_0).2 | with_reducible exact (q_fe btt12_0).1 | (have t1 : 0 ≤ t12_0.toInt ∧ t12_0.toInt ≤ 220 := btt12_0; omega))), (show t12_0.toInt ≤ 220 from (by first | with_reducible exact (q_fe btt12_0).2 | with_reducible exact (q_fe btt12_0).1 | (have t1 : 0 ≤ t12_0.toInt ∧ t12_0.toInt ≤ 220 := btt12_0; omega))), (show 0 ≤ t12_1.toInt from (by first | with_reducible exact (q_fe btt12_1).2 | with_reducible exact (q_fe btt12_1).1 | (have t1 : 0 ≤ t12_1.toInt ∧ t12_1.toInt ≤ 1 := btt12_1; omega))), (show t12_1.toInt ≤ 1 from (by first | with_reducible exact (q_fe btt12_1).2 | with_reducible exact (q_fe btt12_1).1 | (have t1 : 0 ≤ t12_1.toInt ∧ t12_1.toInt ≤ 1 := btt12_1; omega))), (show 0 ≤ t14_0.toInt from (by first | with_reducible exact (q_fe btt14_0).2 | with_reducible exact (q_fe btt14_0).1 | (have t1 : 0 ≤ t14_0.toInt ∧ t14_0.toInt ≤ 220 := btt14_0; omega))), (show t14_0.toInt ≤ 220 from (by first | with_reducible exact (q_fe btt14_0).2 | with_reducible exact (q_fe btt14_0).1 | (have t1 : 0 ≤ t14_0.toInt ∧ t14_0.toInt ≤ 220 := btt14_0; omega))), (show 0 ≤ t14_1.toInt from (by first | with_reducible exact (q_fe btt14_1).2 | with_reducible exact (q_fe btt14_1).1 | (have t1 : 0 ≤ t14_1.toInt ∧ t14_1.toInt ≤ 1 := btt14_1; omega))), (show t14_1.toInt ≤ 1 from (by first | with_reducible exact (q_fe btt14_1).2 | with_reducible exact (q_fe btt14_1).1 | (have t1 : 0 ≤ t14_1.toInt ∧ t14_1.toInt ≤ 1 := btt14_1; omega))), (show 0 ≤ y347.toInt from (by first | with_reducible exact q_fe b351 | (have t1 : 0 ≤ y347.toInt := b351; omega))), (show y347.toInt ≤ 68 from (by first | with_reducible exact q_fe b352 | (have t1 : y347.toInt ≤ 68 := b352; omega))), (show x2.toInt ≤ y261.toInt + 9 from (by have t1 : x2.toInt ≤ 9 := ob187; have t2 : 0 ≤ y261.toInt := b279; omega)), (show y261.toInt ≤ x2.toInt from (by have t1 : 0 ≤ x2.toInt := ob186; have t2 : y261.toInt ≤ 0 := b280; omega)), (show x3.toInt ≤ y261.toInt + 9 from (by have t1 : x3.toInt ≤ 9 := ob180; have t2 : 0 ≤ y261.toInt := b279; omega)), (show y261.toInt ≤ x3.toInt from (by have t1 : 0 ≤ x3.toInt := ob179; have t2 : y261.toInt ≤ 0 := b280; omega)), (show x4.toInt ≤ y261.toInt + 9 from (by have t1 : x4.toInt ≤ 9 := ob129; have t2 : 0 ≤ y261.toInt := b279; omega)), (show y261.toInt ≤ x4.toInt from (by have t1 : 0 ≤ x4.toInt := ob128; have t2 : y261.toInt ≤ 0 := b280; omega)), (show x5.toInt ≤ y347.toInt + 9 from (by first | with_reducible exact q_fe b353 | (have t1 : x5.toInt ≤ y347.toInt + 9 := b353; omega))), (show y347.toInt ≤ x5.toInt + 68 from (by first | with_reducible exact q_fe b354 | (have t1 : y347.toInt ≤ x5.toInt + 68 := b354; omega))), (show x5.toInt ≤ y348.toInt + 9 from (by first | with_reducible exact q_fe b356 | (have t1 : x5.toInt ≤ y348.toInt + 9 := b356; omega))), (show y348.toInt ≤ x5.toInt + 1 from (by first | with_reducible exact q_fe b357 | (have t1 : y348.toInt ≤ x5.toInt + 1 := b357; omega))), (show y255.toInt ≤ y265.toInt from (by first | with_reducible exact q_fe b283 | (have t1 : y255.toInt ≤ y265.toInt := b283; omega))), (show y347.toInt ≤ y255.toInt from (by first | with_reducible exact q_fe b355 | (have t1 : y347.toInt ≤ y255.toInt := b355; omega))), (show y348.toInt ≤ y256.toInt from (by first | with_reducible exact q_fe b359 | (have t1 : y348.toInt ≤ y256.toInt := b359; omega))), (show y256.toInt ≤ y348.toInt from (by first | with_reducible exact q_fe b358 | (have t1 : y256.toInt ≤ y348.toInt := b358; omega))), (show y348.toInt ≤ y266.toInt from (by have t1 : y256.toInt ≤ y266.toInt := b285; have t2 : y348.toInt ≤ y256.toInt := b359; omega)), (show y266.toInt ≤ y348.toInt from (by have t1 : y266.toInt ≤ y256.toInt := b284; have t2 : y256.toInt ≤ y348.toInt := b358; omega)), (show ((0 : Int32), y255, y256, f257, y260, y261, f262, y265, y266, f267, y270, y271, f272, t8_0, t8_1, t9_0, t10_0, t10_1, t11_0, t12_0, t12_1, t13_0, t14_0, t14_1, t15_0, y347, y348, f349) = (F_NH_powerModulo_at x2 x3 x4 x5 t0_0 t0_1 t1_0 t2_0 t2_1 t3_0 t4_0 t4_1 t5_0 t6_0 t6_1 t7_0 t8_0 t8_1 t9_0 t10_0 t10_1 t11_0 t12_0 t12_1 t13_0 t14_0 t14_1 t15_0 t16_0 t16_1 t17_0 t18_0 t18_1 t19_0) from Eq.trans (by rw [e365, e364, e363, F_NH_powerModulo_at_c142.eq_1, if_pos c337]) hR341)⟩) d_1_10_145)
          ·
            refine lv_aload_n hx hb d_1_10_69 rfl (lv_at hl 0 rfl) ?_
            refine q_get (ci := 0) (j := 6) (v := .ref (q 9)) C0 V i_NH rfl rfl hO126 (by decide) w_430 rfl d_1_10_70 ?_
            refine lv_aload_n hx hb d_1_10_73 rfl (lv_at hl 0 rfl) ?_
            refine q_get (ci := 0) (j := 2) (v := .ref (q 5)) C0 V i_NH rfl rfl hO126 (by decide) w_426 rfl d_1_10_74 ?_
            refine lv_iload_n hx hb d_1_10_77 rfl (lv_at hl 1 rfl) ?_
            have hX367 := n_fx hI (n_s5 g q)
            have ob368 : q_F (0 ≤ x2.toInt) := (by have h := hS165; rw [S_NH_powerModulo_at_J54.eq_1] at h; rw [if_pos c175] at h; replace h := q_s2 h; replace h := q_s2 h; rw [if_neg c183] at h; exact h.2.1)
            have ob369 : q_F (x2.toInt ≤ 9) := (by have h := hS165; rw [S_NH_powerModulo_at_J54.eq_1] at h; rw [if_pos c175] at h; replace h := q_s2 h; replace h := q_s2 h; rw [if_neg c183] at h; replace h := q_s2 h; exact h.2.1)
            have hj370 : x2.toNatClampNeg < 10 := by have z := q_clI (i := x2) (x := x2.toInt) rfl (by first | with_reducible exact q_fe ob368 | (have t1 : 0 ≤ x2.toInt := ob368; omega)); have t1 : 0 ≤ x2.toInt := ob368; have t2 : x2.toInt ≤ 9 := ob369; omega
            have hq371 := gk4x2 hj370
            refine q_aald (t := 4) (q := q k4) C0 V hX367 rfl (q_ix (x := x2.toInt) rfl (by first | with_reducible exact q_fe ob368 | (have t1 : 0 ≤ x2.toInt := ob368; omega)) (by have t1 : 0 ≤ x2.toInt := ob368; have t2 : x2.toInt ≤ 9 := ob369; omega)) (by rw [hq371]; exact n_fwv hj370) d_1_10_78 ?_
            refine lv_aload_n hx hb d_1_10_79 rfl (lv_at hl 0 rfl) ?_
            refine q_get (ci := 0) (j := 2) (v := .ref (q 5)) C0 V i_NH rfl rfl hO126 (by decide) w_426 rfl d_1_10_80 ?_
            refine lv_iload_n hx hb d_1_10_83 rfl (lv_at hl 3 rfl) ?_
            have hX372 := n_fx hI (n_s5 g q)
            have hj373 : x4.toNatClampNeg < 10 := by have z := q_clI (i := x4) (x := x4.toInt) rfl (by first | with_reducible exact q_fe ob128 | (have t1 : 0 ≤ x4.toInt := ob128; omega)); have t1 : 0 ≤ x4.toInt := ob128; have t2 : x4.toInt ≤ 9 := ob129; omega
            have hq374 := gk4x4 hj373
            refine q_aald (t := 4) (q := q k4) C0 V hX372 rfl (q_ix (x := x4.toInt) rfl (by first | with_reducible exact q_fe ob128 | (have t1 : 0 ≤ x4.toInt := ob128; omega)) (by have t1 : 0 ≤ x4.toInt := ob128; have t2 : x4.toInt ≤ 9 := ob129; omega)) (by rw [hq374]; exact n_fwv hj373) d_1_10_84 ?_
            have ob375 : True ∧ S_Mil_inverse_a (68 : Int32) t0_0 t0_1 t1_0 t2_0 t2_1 t3_0 t6_0 t6_1 t7_0 t8_0 t8_1 t9_0 t10_0 t10_1 t11_0 t12_0 t12_1 t13_0 t14_0 t14_1 t15_0 t16_0 t16_1 t17_0 := (by have h := hS165; rw [S_NH_powerModulo_at_J54.eq_1] at h; rw [if_pos c175] at h; replace h := q_s2 h; replace h := q_s2 h; rw [if_neg c183] at h; replace h := q_s2 h; replace h := q_s2 h; with_reducible exact h.2.1)
            have hO376 := n_o9 hI
            refine q_goi V (q_runV (As := [.ref (q k4), .ref (q k4)]) (rest := []) (d := 6) (mc := 0) (ms := 0) (ci := 4) C0 V rfl LV_NH_236 (X_Mil_inverse_a l D g q ws k4 68 hBk4 (Or.inr yk4)  (by have z0 := yk4; omega) (by have z0 := yk4; omega) (by have z0 := yk4; omega) (by have z0 := yk4; omega) (by have z0 := yk4; omega) (by have z0 := yk4; omega) (by have z0 := yk4; omega) (by have z0 := yk4; omega) (by have z0 := yk4; omega) (by have z0 := yk4; omega) (by have z0 := yk4; omega) (by have z0 := yk4; omega) (by have z0 := yk4; omega) (by have z0 := yk4; omega) (by have z0 := yk4; omega) (by have z0 := yk4; omega) (by have z0 := yk4; omega) (by have z0 := yk4; omega) (by have z0 := yk4; omega) (by have z0 := yk4; omega) (by have z0 := yk4; omega) hI t0_0 t0_1 hT0 t1_0 hT1 t2_0 t2_1 hT2 t3_0 hT3 t6_0 t6_1 hT6 t7_0 hT7 t8_0 t8_1 hT8 t9_0 hT9 t10_0 t10_1 hT10 t11_0 hT11 t12_0 t12_1 hT12 t13_0 hT13 t14_0 t14_1 hT14 t15_0 hT15 t16_0 t16_1 hT16 t17_0 hT17 ob375 _) rfl rfl hO376 rfl hl.1 rfl (Nat.le_of_ble_eq_true rfl) ⟨by decide, by decide⟩ ⟨Nat.le_of_ble_eq_true rfl, Nat.le_of_ble_eq_true rfl⟩ d_1_10_85) (fun a379 u377 H locs hp378 V => ?_)
            obtain ⟨hI, hZ9⟩ := hp378
            obtain ⟨hu458, hZ9⟩ := hZ9
            obtain ⟨y381, hZ9⟩ := hZ9
            obtain ⟨y382, hZ9⟩ := hZ9
            obtain ⟨f383, hZ9⟩ := hZ9
            obtain ⟨y386, hZ9⟩ := hZ9
            obtain ⟨y387, hZ9⟩ := hZ9
            obtain ⟨f388, hZ9⟩ := hZ9
            obtain ⟨y391, hZ9⟩ := hZ9
            obtain ⟨y392, hZ9⟩ := hZ9
            obtain ⟨f393, hZ9⟩ := hZ9
            obtain ⟨y396, hZ9⟩ := hZ9
            obtain ⟨y397, hZ9⟩ := hZ9
            obtain ⟨f398, hZ9⟩ := hZ9
            obtain ⟨y401, hZ9⟩ := hZ9
            obtain ⟨y402, hZ9⟩ := hZ9
            obtain ⟨f403, hZ9⟩ := hZ9
            obtain ⟨y406, hZ9⟩ := hZ9
            obtain ⟨y407, hZ9⟩ := hZ9
            obtain ⟨f408, hZ9⟩ := hZ9
            obtain ⟨y411, hZ9⟩ := hZ9
            obtain ⟨y412, hZ9⟩ := hZ9
            obtain ⟨f413, hZ9⟩ := hZ9
            obtain ⟨y416, hZ9⟩ := hZ9
            obtain ⟨y417, hZ9⟩ := hZ9
            obtain ⟨f418, hZ9⟩ := hZ9
            obtain ⟨hO380, hZ9⟩ := hZ9
            obtain ⟨hA384, hZ9⟩ := hZ9
            obtain ⟨hO385, hZ9⟩ := hZ9
            obtain ⟨hA389, hZ9⟩ := hZ9
            obtain ⟨hO390, hZ9⟩ := hZ9
            obtain ⟨hA394, hZ9⟩ := hZ9
            obtain ⟨hO395, hZ9⟩ := hZ9
            obtain ⟨hA399, hZ9⟩ := hZ9
            obtain ⟨hO400, hZ9⟩ := hZ9
            obtain ⟨hA404, hZ9⟩ := hZ9
            obtain ⟨hO405, hZ9⟩ := hZ9
            obtain ⟨hA409, hZ9⟩ := hZ9
            obtain ⟨hO410, hZ9⟩ := hZ9
            obtain ⟨hA414, hZ9⟩ := hZ9
            obtain ⟨hO415, hZ9⟩ := hZ9
            obtain ⟨hA419, hZ9⟩ := hZ9
            obtain ⟨b420, hZ9⟩ := hZ9
            obtain ⟨b421, hZ9⟩ := hZ9
            replace hZ9 := hZ9.2.2.2.2.2.2.2.2.2.2.2.2
            obtain ⟨b434, hZ9⟩ := hZ9
            obtain ⟨b435, hZ9⟩ := hZ9
            obtain ⟨b436, hZ9⟩ := hZ9
            obtain ⟨b437, hZ9⟩ := hZ9
            obtain ⟨b438, hZ9⟩ := hZ9
            obtain ⟨b439, hZ9⟩ := hZ9
            obtain ⟨b440, hZ9⟩ := hZ9
            obtain ⟨b441, hZ9⟩ := hZ9
            obtain ⟨b442, hZ9⟩ := hZ9
            obtain ⟨b443, hZ9⟩ := hZ9
            obtain ⟨b444, hZ9⟩ := hZ9
            obtain ⟨b445, hZ9⟩ := hZ9
            obtain ⟨b446, hZ9⟩ := hZ9
            obtain ⟨b447, hZ9⟩ := hZ9
            replace hZ9 := hZ9.2.2.2.2.2
            obtain ⟨b453, hZ9⟩ := hZ9
            obtain ⟨b454, hZ9⟩ := hZ9
            replace hZ9 := hZ9.2
            obtain ⟨-, hE457⟩ := hZ9
            replace hO380 : u377[10]? = (some (q 10, .inr (2, [.ref (q 11), .int y381, .int y382])) : Option (Nat × va_E)) := hO380
            replace hA384 : u377[11]? = (some (q 11, .inl (g 0, (220 : Int32).toNatClampNeg, .inl f383)) : Option (Nat × va_E)) := hA384
            replace hO385 : u377[12]? = (some (q 12, .inr (2, [.ref (q 13), .int y386, .int y387])) : Option (Nat × va_E)) := hO385
            replace hA389 : u377[13]? = (some (q 13, .inl (g 0, (220 : Int32).toNatClampNeg, .inl f388)) : Option (Nat × va_E)) := hA389
            replace hO390 : u377[18]? = (some (q 18, .inr (2, [.ref (q 19), .int y391, .int y392])) : Option (Nat × va_E)) := hO390
            replace hA394 : u377[19]? = (some (q 19, .inl (g 0, (220 : Int32).toNatClampNeg, .inl f393)) : Option (Nat × va_E)) := hA394
            replace hO395 : u377[22]? = (some (q 22, .inr (2, [.ref (q 23), .int y396, .int y397])) : Option (Nat × va_E)) := hO395
            replace hA399 : u377[23]? = (some (q 23, .inl (g 0, (220 : Int32).toNatClampNeg, .inl f398)) : Option (Nat × va_E)) := hA399
            replace hO400 : u377[24]? = (some (q 24, .inr (2, [.ref (q 25), .int y401, .int y402])) : Option (Nat × va_E)) := hO400
            replace hA404 : u377[25]? = (some (q 25, .inl (g 0, (220 : Int32).toNatClampNeg, .inl f403)) : Option (Nat × va_E)) := hA404
            replace hO405 : u377[26]? = (some (q 26, .inr (2, [.ref (q 27), .int y406, .int y407])) : Option (Nat × va_E)) := hO405
            replace hA409 : u377[27]? = (some (q 27, .inl (g 0, (220 : Int32).toNatClampNeg, .inl f408)) : Option (Nat × va_E)) := hA409
            replace hO410 : u377[28]? = (some (q 28, .inr (2, [.ref (q 29), .int y411, .int y412])) : Option (Nat × va_E)) := hO410
            replace hA414 : u377[29]? = (some (q 29, .inl (g 0, (220 : Int32).toNatClampNeg, .inl f413)) : Option (Nat × va_E)) := hA414
            replace hO415 : u377[k4]? = (some (q k4, .inr (2, [.ref (q (k4 + 1)), .int y416, .int y417])) : Option (Nat × va_E)) := hO415
            replace hA419 : u377[k4 + 1]? = (some (q (k4 + 1), .inl (g 0, (68 : Int32).toNatClampNeg, .inl f418)) : Option (Nat × va_E)) := hA419
            obtain ⟨p459, e460⟩ : ∃ z, z = (F_Mil_inverse_a (68 : Int32) t0_0 t0_1 t1_0 t2_0 t2_1 t3_0 t6_0 t6_1 t7_0 t8_0 t8_1 t9_0 t10_0 t10_1 t11_0 t12_0 t12_1 t13_0 t14_0 t14_1 t15_0 t16_0 t16_1 t17_0) := ⟨_, rfl⟩
            have e461 : a379 = p459.1 := congrArg (fun z => z.1) (hE457.trans e460.symm)
            have e462 : y381 = p459.2.1 := congrArg (fun z => z.2.1) (hE457.trans e460.symm)
            have e463 : y382 = p459.2.2.1 := congrArg (fun z => z.2.2.1) (hE457.trans e460.symm)
            have e464 : f383 = p459.2.2.2.1 := congrArg (fun z => z.2.2.2.1) (hE457.trans e460.symm)
            have e465 : y386 = p459.2.2.2.2.1 := congrArg (fun z => z.2.2.2.2.1) (hE457.trans e460.symm)
            have e466 : y387 = p459.2.2.2.2.2.1 := congrArg (fun z => z.2.2.2.2.2.1) (hE457.trans e460.symm)
            have e467 : f388 = p459.2.2.2.2.2.2.1 := congrArg (fun z => z.2.2.2.2.2.2.1) (hE457.trans e460.symm)
            have e468 : y391 = p459.2.2.2.2.2.2.2.1 := congrArg (fun z => z.2.2.2.2.2.2.2.1) (hE457.trans e460.symm)
            have e469 : y392 = p459.2.2.2.2.2.2.2.2.1 := congrArg (fun z => z.2.2.2.2.2.2.2.2.1) (hE457.trans e460.symm)
            have e470 : f393 = p459.2.2.2.2.2.2.2.2.2.1 := congrArg (fun z => z.2.2.2.2.2.2.2.2.2.1) (hE457.trans e460.symm)
            have e471 : y396 = p459.2.2.2.2.2.2.2.2.2.2.1 := congrArg (fun z => z.2.2.2.2.2.2.2.2.2.2.1) (hE457.trans e460.symm)
            have e472 : y397 = p459.2.2.2.2.2.2.2.2.2.2.2.1 := congrArg (fun z => z.2.2.2.2.2.2.2.2.2.2.2.1) (hE457.trans e460.symm)
            have e473 : f398 = p459.2.2.2.2.2.2.2.2.2.2.2.2.1 := congrArg (fun z => z.2.2.2.2.2.2.2.2.2.2.2.2.1) (hE457.trans e460.symm)
            have e474 : y401 = p459.2.2.2.2.2.2.2.2.2.2.2.2.2.1 := congrArg (fun z => z.2.2.2.2.2.2.2.2.2.2.2.2.2.1) (hE457.trans e460.symm)
            have e475 : y402 = p459.2.2.2.2.2.2.2.2.2.2.2.2.2.2.1 := congrArg (fun z => z.2.2.2.2.2.2.2.2.2.2.2.2.2.2.1) (hE457.trans e460.symm)
            have e476 : f403 = p459.2.2.2.2.2.2.2.2.2.2.2.2.2.2.2.1 := congrArg (fun z => z.2.2.2.2.2.2.2.2.2.2.2.2.2.2.2.1) (hE457.trans e460.symm)
            have e477 : y406 = p459.2.2.2.2.2.2.2.2.2.2.2.2.2.2.2.2.1 := congrArg (fun z => z.2.2.2.2.2.2.2.2.2.2.2.2.2.2.2.2.1) (hE457.trans e460.symm)
            have e478 : y407 = p459.2.2.2.2.2.2.2.2.2.2.2.2.2.2.2.2.2.1 := congrArg (fun z => z.2.2.2.2.2.2.2.2.2.2.2.2.2.2.2.2.2.1) (hE457.trans e460.symm)
            have e479 : f408 = p459.2.2.2.2.2.2.2.2.2.2.2.2.2.2.2.2.2.2.1 := congrArg (fun z => z.2.2.2.2.2.2.2.2.2.2.2.2.2.2.2.2.2.2.1) (hE457.trans e460.symm)
            have e480 : y411 = p459.2.2.2.2.2.2.2.2.2.2.2.2.2.2.2.2.2.2.2.1 := congrArg (fun z => z.2.2.2.2.2.2.2.2.2.2.2.2.2.2.2.2.2.2.2.1) (hE457.trans e460.symm)
            have e481 : y412 = p459.2.2.2.2.2.2.2.2.2.2.2.2.2.2.2.2.2.2.2.2.1 := congrArg (fun z => z.2.2.2.2.2.2.2.2.2.2.2.2.2.2.2.2.2.2.2.2.1) (hE457.trans e460.symm)
            have e482 : f413 = p459.2.2.2.2.2.2.2.2.2.2.2.2.2.2.2.2.2.2.2.2.2.1 := congrArg (fun z => z.2.2.2.2.2.2.2.2.2.2.2.2.2.2.2.2.2.2.2.2.2.1) (hE457.trans e460.symm)
            have e483 : y416 = p459.2.2.2.2.2.2.2.2.2.2.2.2.2.2.2.2.2.2.2.2.2.2.1 := congrArg (fun z => z.2.2.2.2.2.2.2.2.2.2.2.2.2.2.2.2.2.2.2.2.2.2.1) (hE457.trans e460.symm)
            have e484 : y417 = p459.2.2.2.2.2.2.2.2.2.2.2.2.2.2.2.2.2.2.2.2.2.2.2.1 := congrArg (fun z => z.2.2.2.2.2.2.2.2.2.2.2.2.2.2.2.2.2.2.2.2.2.2.2.1) (hE457.trans e460.symm)
            have e485 : f418 = p459.2.2.2.2.2.2.2.2.2.2.2.2.2.2.2.2.2.2.2.2.2.2.2.2 := congrArg (fun z => z.2.2.2.2.2.2.2.2.2.2.2.2.2.2.2.2.2.2.2.2.2.2.2.2) (hE457.trans e460.symm)
            replace b420 : q_F (0 ≤ a379.toInt) := b420
            replace b421 : q_F (a379.toInt ≤ 1) := b421
            replace b434 : q_F (0 ≤ y396.toInt) := b434
            replace b435 : q_F (y396.toInt ≤ 220) := b435
            replace b436 : q_F (0 ≤ y397.toInt) := b436
            replace b437 : q_F (0 ≤ y401.toInt) := b437
            replace b438 : q_F (y401.toInt ≤ 220) := b438
            replace b439 : q_F (0 ≤ y402.toInt) := b439
            replace b440 : q_F (0 ≤ y406.toInt) := b440
            replace b441 : q_F (y406.toInt ≤ 220) := b441
            replace b442 : q_F (0 ≤ y407.toInt) := b442
            replace b443 : q_F (y407.toInt ≤ 1) := b443
            replace b444 : q_F (0 ≤ y411.toInt) := b444
            replace b445 : q_F (y411.toInt ≤ 220) := b445
            replace b446 : q_F (0 ≤ y412.toInt) := b446
            replace b447 : q_F (y412.toInt ≤ 1) := b447
            replace b453 : q_F (y397.toInt ≤ t16_1.toInt) := b453
            replace b454 : q_F (y402.toInt ≤ t16_1.toInt) := b454
            replace hT4 := (hu458 _ (by have z0 := yk4; simp only [List.mem_cons, List.not_mem_nil, or_false, not_or]; omega)).trans hT4
            replace hT5 := (hu458 _ (by have z0 := yk4; simp only [List.mem_cons, List.not_mem_nil, or_false, not_or]; omega)).trans hT5
            replace hT18 := (hu458 _ (q_nc (by have z0 := yk3; omega) (q_nc (by have z0 := yk3; omega) (q_nc (by have z0 := yk3; omega) (q_nc (by have z0 := yk3; omega) (q_nc (by have z0 := yk3; omega) (q_nc (by have z0 := yk3; omega) (q_nc (by have z0 := yk3; omega) (q_nc (by have z0 := yk3; omega) (q_nc (by have z0 := yk3; omega) (q_nc (by have z0 := yk3; omega) (q_nc (by have z0 := yk3; omega) (q_nc (by have z0 := yk3; omega) (q_nc (by have z0 := yk3; omega) (q_nc (by have z0 := yk3; omega) (q_nc (by have z := ne_k3_k4; omega) (q_nc (by have z := ne_k3_k4p1; omega) List.not_mem_nil))))))))))))))))).trans hT18
            replace hT19 := (hu458 _ (q_nc (by have z0 := yk3; omega) (q_nc (by have z0 := yk3; omega) (q_nc (by have z0 := yk3; omega) (q_nc (by have z0 := yk3; omega) (q_nc (by have z0 := yk3; omega) (q_nc (by have z0 := yk3; omega) (q_nc (by have z0 := yk3; omega) (q_nc (by have z0 := yk3; omega) (q_nc (by have z0 := yk3; omega) (q_nc (by have z0 := yk3; omega) (q_nc (by have z0 := yk3; omega) (q_nc (by have z0 := yk3; omega) (q_nc (by have z0 := yk3; omega) (q_nc (by have z0 := yk3; omega) (q_nc (by have z := ne_k4_k3p1; omega) (q_nc (by have z := ne_k3_k4; omega) List.not_mem_nil))))))))))))))))).trans hT19
            replace hO126 := (hu458 _ (by have z0 := yk4; simp only [List.mem_cons, List.not_mem_nil, or_false, not_or]; omega)).trans hO126
            replace hO376 := (hu458 _ (by have z0 := yk4; simp only [List.mem_cons, List.not_mem_nil, or_false, not_or]; omega)).trans hO376
            replace hF := q_uc hF hu458 (by simp)
            have hR486 := (show F_NH_powerModulo_at_c85 x2 x3 x4 x5 t0_0 t0_1 t1_0 t2_0 t2_1 t3_0 t4_0 t4_1 t5_0 t6_0 t6_1 t7_0 t8_0 t8_1 t9_0 t10_0 t10_1 t11_0 t12_0 t12_1 t13_0 t14_0 t14_1 t15_0 t16_0 t16_1 t17_0 t18_0 t18_1 t19_0 lx88 lx140 p459 = (F_NH_powerModulo_at x2 x3 x4 x5 t0_0 t0_1 t1_0 t2_0 t2_1 t3_0 t4_0 t4_1 t5_0 t6_0 t6_1 t7_0 t8_0 t8_1 t9_0 t10_0 t10_1 t11_0 t12_0 t12_1 t13_0 t14_0 t14_1 t15_0 t16_0 t16_1 t17_0 t18_0 t18_1 t19_0) from Eq.trans (by rw [e460, F_NH_powerModulo_at_J54.eq_1, if_pos c175, if_neg c183]) hR164)
            have hS487 := (show True ∧ S_NH_powerModulo_at_c85 x2 x3 x4 x5 t0_0 t0_1 t1_0 t2_0 t2_1 t3_0 t4_0 t4_1 t5_0 t6_0 t6_1 t7_0 t8_0 t8_1 t9_0 t10_0 t10_1 t11_0 t12_0 t12_1 t13_0 t14_0 t14_1 t15_0 t16_0 t16_1 t17_0 t18_0 t18_1 t19_0 lx88 lx140 p459 from (by rw [e460]; have h := hS165; rw [S_NH_powerModulo_at_J54.eq_1] at h; rw [if_pos c175] at h; replace h := q_s2 h; replace h := q_s2 h; rw [if_neg c183] at h; replace h := q_s2 h; replace h := q_s2 h; replace h := q_s2 h; with_reducible exact h))
            refine q_goxv V (q_runSX (As := [.int a379]) (rest := []) (d := 7) (mc := 1) (ms := 6) C0 V rfl LS_NH_138 (X_NH_canHave l D g q u377  a379 hlt hI  ⟨(by first | with_reducible exact q_fe b420 | (have t1 : 0 ≤ a379.toInt := b420; omega)), (by first | with_reducible exact q_fe b421 | (have t1 : a379.toInt ≤ 1 := b421; omega))⟩ _) rfl hl.1 rfl (Nat.le_of_ble_eq_true rfl) ⟨by decide, by decide⟩ ⟨Nat.le_of_ble_eq_true rfl, Nat.le_of_ble_eq_true rfl⟩ d_1_10_88) (fun qx Ex ce u491 H locs hp492 V hce hcv hcl => ?_) (fun u491 H locs hp492 V => ?_)
            ·
              obtain ⟨cx494, he495, hc496, rfl, hE493⟩ := hp492
              have c497 : ¬ (F_NH_canHave a379) = (0 : Int32) := fun z => hc496 (((hE493) : cx494 = _).trans z)
              exact q_outT hno C0 V (⟨(F_NH_canHave a379), (he495.trans (congrArg qE ((hE493) : cx494 = _))), c497, hI, hF, y381, y382, f383, y386, y387, f388, t4_0, t4_1, t5_0, y391, y392, f393, y396, y397, f398, y401, y402, f403, y406, y407, f408, y411, y412, f413, y416, y417, f418, hO380, hA384, hO385, hA389, hT4, hT5, hO390, hA394, hO395, hA399, hO400, hA404, hO405, hA409, hO410, hA414, hO415, hA419, (show ((F_NH_canHave a379), y381, y382, f383, y386, y387, f388, t4_0, t4_1, t5_0, y391, y392, f393, y396, y397, f398, y401, y402, f403, y406, y407, f408, y411, y412, f413, y416, y417, f418) = (F_NH_powerModulo_at x2 x3 x4 x5 t0_0 t0_1 t1_0 t2_0 t2_1 t3_0 t4_0 t4_1 t5_0 t6_0 t6_1 t7_0 t8_0 t8_1 t9_0 t10_0 t10_1 t11_0 t12_0 t12_1 t13_0 t14_0 t14_1 t15_0 t16_0 t16_1 t17_0 t18_0 t18_1 t19_0) from Eq.trans (by have c497x := c497; rw [e461] at c497x; rw [e485, e484, e483, e482, e481, e480, e479, e478, e477, e476, e475, e474, e473, e472, e471, e470, e469, e468, e467, e466, e465, e464, e463, e462, e461, F_NH_powerModulo_at_c85.eq_1, if_neg c497x]) hR486)⟩) hce hcv hcl (Nat.le_of_ble_eq_true rfl) (Nat.le_of_ble_eq_true rfl)
            ·
              obtain ⟨rfl, hE498⟩ := hp492
              have c497 : (F_NH_canHave a379) = (0 : Int32) := ((hE498) : (0 : Int32) = _).symm
              refine lv_goto (tgt := 120) hx hb d_1_10_91 (by decide) ?_
              refine lv_aload_n hx hb d_1_10_120 rfl (lv_at hl 0 rfl) ?_
              refine q_get (ci := 0) (j := 6) (v := .ref (q 9)) C0 V i_NH rfl rfl hO126 (by decide) w_430 rfl d_1_10_121 ?_
              refine lv_aload_n hx hb d_1_10_124 rfl (lv_at hl 0 rfl) ?_
              refine q_get (ci := 0) (j := 2) (v := .ref (q 5)) C0 V i_NH rfl rfl hO126 (by decide) w_426 rfl d_1_10_125 ?_
              refine lv_iload_n hx hb d_1_10_128 rfl (lv_at hl 2 rfl) ?_
              have hX500 := n_fx hI (n_s5 g q)
              have hj501 : x3.toNatClampNeg < 10 := by have z := q_clI (i := x3) (x := x3.toInt) rfl (by first | with_reducible exact q_fe ob179 | (have t1 : 0 ≤ x3.toInt := ob179; omega)); have t1 : 0 ≤ x3.toInt := ob179; have t2 : x3.toInt ≤ 9 := ob180; omega
              have hq502 := gk3x3 hj501
              refine q_aald (t := 4) (q := q k3) C0 V hX500 rfl (q_ix (x := x3.toInt) rfl (by first | with_reducible exact q_fe ob179 | (have t1 : 0 ≤ x3.toInt := ob179; omega)) (by have t1 : 0 ≤ x3.toInt := ob179; have t2 : x3.toInt ≤ 9 := ob180; omega)) (by rw [hq502]; exact n_fwv hj501) d_1_10_129 ?_
              refine lv_aload_n hx hb d_1_10_130 rfl (lv_at hl 0 rfl) ?_
              refine q_get (ci := 0) (j := 2) (v := .ref (q 5)) C0 V i_NH rfl rfl hO126 (by decide) w_426 rfl d_1_10_131 ?_
              refine lv_iload_n hx hb d_1_10_134 rfl (lv_at hl 3 rfl) ?_
              have hX503 := n_fx hI (n_s5 g q)
              have hj504 : x4.toNatClampNeg < 10 := by have z := q_clI (i := x4) (x := x4.toInt) rfl (by first | with_reducible exact q_fe ob128 | (have t1 : 0 ≤ x4.toInt := ob128; omega)); have t1 : 0 ≤ x4.toInt := ob128; have t2 : x4.toInt ≤ 9 := ob129; omega
              have hq505 := gk4x4 hj504
              refine q_aald (t := 4) (q := q k4) C0 V hX503 rfl (q_ix (x := x4.toInt) rfl (by first | with_reducible exact q_fe ob128 | (have t1 : 0 ≤ x4.toInt := ob128; omega)) (by have t1 : 0 ≤ x4.toInt := ob128; have t2 : x4.toInt ≤ 9 := ob129; omega)) (by rw [hq505]; exact n_fwv hj504) d_1_10_135 ?_
              have ob506 : True ∧ S_Mil_powerBelow (68 : Int32) (68 : Int32) y381 y382 f383 y386 y387 f388 t4_0 t4_1 t5_0 y391 y392 f393 t18_0 t18_1 t19_0 y416 y417 f418 := (by rw [e485, e484, e483, e470, e469, e468, e467, e466, e465, e464, e463, e462]; have h := hS487; rw [S_NH_powerModulo_at_c85.eq_1] at h; have c497x := c497; rw [e461] at c497x; rw [if_pos c497x] at h; with_reducible exact h.2.1)
              refine q_gov V (q_runV (As := [.ref (q k3), .ref (q k4)]) (rest := []) (d := 5) (mc := 0) (ms := 0) (ci := 4) C0 V rfl LV_NH_266 (X_Mil_powerBelow l D g q u377 k3 68 hBk3 (Or.inr yk3) k4 68 hBk4 (Or.inr yk4)  (by have z0 := yk3; omega) (by have z0 := yk3; omega) (by have z0 := yk3; omega) (by have z0 := yk3; omega) (by have z0 := yk3; omega) (by have z0 := yk3; omega) (by have z0 := yk3; omega) (by have z0 := yk3; omega) (by have z0 := yk3; omega) (by have z0 := yk3; omega) (by have z0 := yk3; omega) (by have z0 := yk3; omega) (by have z0 := yk4; omega) (by have z0 := yk4; omega) (by have z0 := yk4; omega) (by have z0 := yk4; omega) (by have z0 := yk4; omega) (by have z0 := yk4; omega) (by have z0 := yk4; omega) (by have z0 := yk4; omega) (by have z0 := yk4; omega) (by have z0 := yk4; omega) (by have z0 := yk4; omega) (by have z0 := yk4; omega) (by have z := ne_k3_k4; omega) hI y381 y382 hO380 f383 hA384 y386 y387 hO385 f388 hA389 t4_0 t4_1 hT4 t5_0 hT5 y391 y392 hO390 f393 hA394 t18_0 t18_1 hT18 t19_0 hT19 y416 y417 hO415 f418 hA419 ob506 _) rfl rfl hO376 rfl hl.1 rfl (Nat.le_of_ble_eq_true rfl) ⟨by decide, by decide⟩ ⟨Nat.le_of_ble_eq_true rfl, Nat.le_of_ble_eq_true rfl⟩ d_1_10_136) (fun u507 H locs hp508 V => ?_)
              obtain ⟨hI, hZ9⟩ := hp508
              obtain ⟨hu554, hZ9⟩ := hZ9
              obtain ⟨y510, hZ9⟩ := hZ9
              obtain ⟨y511, hZ9⟩ := hZ9
              obtain ⟨f512, hZ9⟩ := hZ9
              obtain ⟨y515, hZ9⟩ := hZ9
              obtain ⟨y516, hZ9⟩ := hZ9
              obtain ⟨f517, hZ9⟩ := hZ9
              obtain ⟨y520, hZ9⟩ := hZ9
              obtain ⟨y521, hZ9⟩ := hZ9
              obtain ⟨f522, hZ9⟩ := hZ9
              obtain ⟨y525, hZ9⟩ := hZ9
              obtain ⟨y526, hZ9⟩ := hZ9
              obtain ⟨f527, hZ9⟩ := hZ9
              obtain ⟨y530, hZ9⟩ := hZ9
              obtain ⟨y531, hZ9⟩ := hZ9
              obtain ⟨f532, hZ9⟩ := hZ9
              obtain ⟨hO509, hZ9⟩ := hZ9
              obtain ⟨hA513, hZ9⟩ := hZ9
              obtain ⟨hO514, hZ9⟩ := hZ9
              obtain ⟨hA518, hZ9⟩ := hZ9
              obtain ⟨hO519, hZ9⟩ := hZ9
              obtain ⟨hA523, hZ9⟩ := hZ9
              obtain ⟨hO524, hZ9⟩ := hZ9
              obtain ⟨hA528, hZ9⟩ := hZ9
              obtain ⟨hO529, hZ9⟩ := hZ9
              obtain ⟨hA533, hZ9⟩ := hZ9
              obtain ⟨b534, hZ9⟩ := hZ9
              obtain ⟨b535, hZ9⟩ := hZ9
              replace hZ9 := hZ9.2
              obtain ⟨b537, hZ9⟩ := hZ9
              obtain ⟨b538, hZ9⟩ := hZ9
              obtain ⟨b539, hZ9⟩ := hZ9
              obtain ⟨b540, hZ9⟩ := hZ9
              obtain ⟨b541, hZ9⟩ := hZ9
              obtain ⟨b542, hZ9⟩ := hZ9
              obtain ⟨b543, hZ9⟩ := hZ9
              obtain ⟨b544, hZ9⟩ := hZ9
              obtain ⟨b545, hZ9⟩ := hZ9
              obtain ⟨b546, hZ9⟩ := hZ9
              obtain ⟨b547, hZ9⟩ := hZ9
              obtain ⟨b548, hZ9⟩ := hZ9
              obtain ⟨b549, hZ9⟩ := hZ9
              replace hZ9 := hZ9.2.2
              obtain ⟨-, hE553⟩ := hZ9
              replace hO509 : u507[10]? = (some (q 10, .inr (2, [.ref (q 11), .int y510, .int y511])) : Option (Nat × va_E)) := hO509
              replace hA513 : u507[11]? = (some (q 11, .inl (g 0, (220 : Int32).toNatClampNeg, .inl f512)) : Option (Nat × va_E)) := hA513
              replace hO514 : u507[12]? = (some (q 12, .inr (2, [.ref (q 13), .int y515, .int y516])) : Option (Nat × va_E)) := hO514
              replace hA518 : u507[13]? = (some (q 13, .inl (g 0, (220 : Int32).toNatClampNeg, .inl f517)) : Option (Nat × va_E)) := hA518
              replace hO519 : u507[14]? = (some (q 14, .inr (2, [.ref (q 15), .int y520, .int y521])) : Option (Nat × va_E)) := hO519
              replace hA523 : u507[15]? = (some (q 15, .inl (g 0, (220 : Int32).toNatClampNeg, .inl f522)) : Option (Nat × va_E)) := hA523
              replace hO524 : u507[18]? = (some (q 18, .inr (2, [.ref (q 19), .int y525, .int y526])) : Option (Nat × va_E)) := hO524
              replace hA528 : u507[19]? = (some (q 19, .inl (g 0, (220 : Int32).toNatClampNeg, .inl f527)) : Option (Nat × va_E)) := hA528
              replace hO529 : u507[k4]? = (some (q k4, .inr (2, [.ref (q (k4 + 1)), .int y530, .int y531])) : Option (Nat × va_E)) := hO529
              replace hA533 : u507[k4 + 1]? = (some (q (k4 + 1), .inl (g 0, (68 : Int32).toNatClampNeg, .inl f532)) : Option (Nat × va_E)) := hA533
              obtain ⟨p555, e556⟩ : ∃ z, z = (F_Mil_powerBelow (68 : Int32) (68 : Int32) y381 y382 f383 y386 y387 f388 t4_0 t4_1 t5_0 y391 y392 f393 t18_0 t18_1 t19_0 y416 y417 f418) := ⟨_, rfl⟩
              have e557 : y510 = p555.1 := congrArg (fun z => z.1) (hE553.trans e556.symm)
              have e558 : y511 = p555.2.1 := congrArg (fun z => z.2.1) (hE553.trans e556.symm)
              have e559 : f512 = p555.2.2.1 := congrArg (fun z => z.2.2.1) (hE553.trans e556.symm)
              have e560 : y515 = p555.2.2.2.1 := congrArg (fun z => z.2.2.2.1) (hE553.trans e556.symm)
              have e561 : y516 = p555.2.2.2.2.1 := congrArg (fun z => z.2.2.2.2.1) (hE553.trans e556.symm)
              have e562 : f517 = p555.2.2.2.2.2.1 := congrArg (fun z => z.2.2.2.2.2.1) (hE553.trans e556.symm)
              have e563 : y520 = p555.2.2.2.2.2.2.1 := congrArg (fun z => z.2.2.2.2.2.2.1) (hE553.trans e556.symm)
              have e564 : y521 = p555.2.2.2.2.2.2.2.1 := congrArg (fun z => z.2.2.2.2.2.2.2.1) (hE553.trans e556.symm)
              have e565 : f522 = p555.2.2.2.2.2.2.2.2.1 := congrArg (fun z => z.2.2.2.2.2.2.2.2.1) (hE553.trans e556.symm)
              have e566 : y525 = p555.2.2.2.2.2.2.2.2.2.1 := congrArg (fun z => z.2.2.2.2.2.2.2.2.2.1) (hE553.trans e556.symm)
              have e567 : y526 = p555.2.2.2.2.2.2.2.2.2.2.1 := congrArg (fun z => z.2.2.2.2.2.2.2.2.2.2.1) (hE553.trans e556.symm)
              have e568 : f527 = p555.2.2.2.2.2.2.2.2.2.2.2.1 := congrArg (fun z => z.2.2.2.2.2.2.2.2.2.2.2.1) (hE553.trans e556.symm)
              have e569 : y530 = p555.2.2.2.2.2.2.2.2.2.2.2.2.1 := congrArg (fun z => z.2.2.2.2.2.2.2.2.2.2.2.2.1) (hE553.trans e556.symm)
              have e570 : y531 = p555.2.2.2.2.2.2.2.2.2.2.2.2.2.1 := congrArg (fun z => z.2.2.2.2.2.2.2.2.2.2.2.2.2.1) (hE553.trans e556.symm)
              have e571 : f532 = p555.2.2.2.2.2.2.2.2.2.2.2.2.2.2 := congrArg (fun z => z.2.2.2.2.2.2.2.2.2.2.2.2.2.2) (hE553.trans e556.symm)
              replace b534 : q_F (0 ≤ y516.toInt) := b534
              replace b535 : q_F (y516.toInt ≤ 0) := b535
              replace b537 : q_F (y516.toInt ≤ y510.toInt) := b537
              replace b538 : q_F (y510.toInt ≤ y520.toInt) := b538
              replace b539 : q_F (y521.toInt ≤ y511.toInt) := b539
              replace b540 : q_F (y511.toInt ≤ y521.toInt) := b540
              replace b541 : q_F (y516.toInt ≤ y515.toInt) := b541
              replace b542 : q_F (y515.toInt ≤ y516.toInt + 220) := b542
              replace b543 : q_F (y520.toInt ≤ y516.toInt + 220) := b543
              replace b544 : q_F (y521.toInt ≤ y516.toInt + 1) := b544
              replace b545 : q_F (y516.toInt ≤ y521.toInt) := b545
              replace b546 : q_F (y525.toInt ≤ y516.toInt + 220) := b546
              replace b547 : q_F (y516.toInt ≤ y525.toInt) := b547
              replace b548 : q_F (y526.toInt ≤ y516.toInt + 1) := b548
              replace b549 : q_F (y516.toInt ≤ y526.toInt) := b549
              replace hO395 := (hu554 _ (by have z0 := yk4; simp only [List.mem_cons, List.not_mem_nil, or_false, not_or]; omega)).trans hO395
              replace hA399 := (hu554 _ (by have z0 := yk4; simp only [List.mem_cons, List.not_mem_nil, or_false, not_or]; omega)).trans hA399
              replace hO400 := (hu554 _ (by have z0 := yk4; simp only [List.mem_cons, List.not_mem_nil, or_false, not_or]; omega)).trans hO400
              replace hA404 := (hu554 _ (by have z0 := yk4; simp only [List.mem_cons, List.not_mem_nil, or_false, not_or]; omega)).trans hA404
              replace hO405 := (hu554 _ (by have z0 := yk4; simp only [List.mem_cons, List.not_mem_nil, or_false, not_or]; omega)).trans hO405
              replace hA409 := (hu554 _ (by have z0 := yk4; simp only [List.mem_cons, List.not_mem_nil, or_false, not_or]; omega)).trans hA409
              replace hO410 := (hu554 _ (by have z0 := yk4; simp only [List.mem_cons, List.not_mem_nil, or_false, not_or]; omega)).trans hO410
              replace hA414 := (hu554 _ (by have z0 := yk4; simp only [List.mem_cons, List.not_mem_nil, or_false, not_or]; omega)).trans hA414
              replace hO126 := (hu554 _ (by have z0 := yk4; simp only [List.mem_cons, List.not_mem_nil, or_false, not_or]; omega)).trans hO126
              replace hF := q_uc hF hu554 (by simp)
              have hR572 := (show F_NH_powerModulo_at_c136_7 x2 x3 x4 x5 t0_0 t0_1 t1_0 t2_0 t2_1 t3_0 t4_0 t4_1 t5_0 t6_0 t6_1 t7_0 t8_0 t8_1 t9_0 t10_0 t10_1 t11_0 t12_0 t12_1 t13_0 t14_0 t14_1 t15_0 t16_0 t16_1 t17_0 t18_0 t18_1 t19_0 lx88 lx140 p459 y396 y397 f398 y401 y402 f403 y406 y407 f408 y411 y412 f413 p555 = (F_NH_powerModulo_at x2 x3 x4 x5 t0_0 t0_1 t1_0 t2_0 t2_1 t3_0 t4_0 t4_1 t5_0 t6_0 t6_1 t7_0 t8_0 t8_1 t9_0 t10_0 t10_1 t11_0 t12_0 t12_1 t13_0 t14_0 t14_1 t15_0 t16_0 t16_1 t17_0 t18_0 t18_1 t19_0) from Eq.trans (by have c497x := c497; rw [e461] at c497x; rw [e556, e485, e484, e483, e482, e481, e480, e479, e478, e477, e476, e475, e474, e473, e472, e471, e470, e469, e468, e467, e466, e465, e464, e463, e462, F_NH_powerModulo_at_c85.eq_1, if_pos c497x]) hR486)
              have hS573 := (show True ∧ S_NH_powerModulo_at_c136_7 x2 x3 x4 x5 t0_0 t0_1 t1_0 t2_0 t2_1 t3_0 t4_0 t4_1 t5_0 t6_0 t6_1 t7_0 t8_0 t8_1 t9_0 t10_0 t10_1 t11_0 t12_0 t12_1 t13_0 t14_0 t14_1 t15_0 t16_0 t16_1 t17_0 t18_0 t18_1 t19_0 lx88 lx140 p459 y396 y397 f398 y401 y402 f403 y406 y407 f408 y411 y412 f413 p555 from (by rw [e556, e485, e484, e483, e482, e481, e480, e479, e478, e477, e476, e475, e474, e473, e472, e471, e470, e469, e468, e467, e466, e465, e464, e463, e462]; have h := hS487; rw [S_NH_powerModulo_at_c85.eq_1] at h; have c497x := c497; rw [e461] at c497x; rw [if_pos c497x] at h; replace h := q_s2 h; with_reducible exact h))
              refine lv_aload_n hx hb d_1_10_139 rfl (lv_at hl 0 rfl) ?_
              refine lv_iload hx hb d_1_10_140 (lv_at hl 4 rfl) ?_
              have ob577 : True ∧ S_NH_keepWhole x5 y510 y511 f512 y530 y531 f532 := (by rw [e571, e570, e569, e559, e558, e557]; have h := hS573; rw [S_NH_powerModulo_at_c136_7.eq_1] at h; with_reducible exact h.2.1)
              refine q_goxv V (q_runVX (As := [.int x5]) (rest := []) (d := 8) (mc := 1) (ms := 6) (ci := 0) C0 V rfl LV_NH_243 (X_NH_keepWhole l D g q u507  x5 k4 hBk4 yk4 gk4x5 hlt hI y510 y511 hO509 f512 hA513 y530 y531 hO529 f532 hA533 ob577 _) rfl rfl hO126 rfl hl.1 rfl (Nat.le_of_ble_eq_true rfl) ⟨by decide, by decide⟩ ⟨Nat.le_of_ble_eq_true rfl, Nat.le_of_ble_eq_true rfl⟩ d_1_10_142) (fun qx Ex ce u578 H locs hp579 V hce hcv hcl => ?_) (fun u578 H locs hp579 V => ?_)
              ·
                obtain ⟨cx586, hZ9⟩ := hp579
                obtain ⟨he587, hZ9⟩ := hZ9
                obtain ⟨hc588, hZ9⟩ := hZ9
                obtain ⟨hI, hZ9⟩ := hZ9
                obtain ⟨hu589, hZ9⟩ := hZ9
                obtain ⟨y581, hZ9⟩ := hZ9
                obtain ⟨y582, hZ9⟩ := hZ9
                obtain ⟨f583, hZ9⟩ := hZ9
                obtain ⟨hO580, hZ9⟩ := hZ9
                obtain ⟨hA584, hE585⟩ := hZ9
                replace hO580 : u578[k4]? = (some (q k4, .inr (2, [.ref (q (k4 + 1)), .int y581, .int y582])) : Option (Nat × va_E)) := hO580
                replace hA584 : u578[k4 + 1]? = (some (q (k4 + 1), .inl (g 0, (68 : Int32).toNatClampNeg, .inl f583)) : Option (Nat × va_E)) := hA584
                obtain ⟨p590, e591⟩ : ∃ z, z = (F_NH_keepWhole x5 y510 y511 f512 y530 y531 f532) := ⟨_, rfl⟩
                have c592 : ¬ p590.1 = (0 : Int32) := fun z => hc588 (((congrArg (fun z => z.1) (hE585.trans e591.symm)) : cx586 = _).trans z)
                have e593 : y581 = p590.2.1 := congrArg (fun z => z.2.1) (hE585.trans e591.symm)
                have e594 : y582 = p590.2.2.1 := congrArg (fun z => z.2.2.1) (hE585.trans e591.symm)
                have e595 : f583 = p590.2.2.2 := congrArg (fun z => z.2.2.2) (hE585.trans e591.symm)
                replace hO509 := (hu589 _ (by have z0 := yk4; simp only [List.mem_cons, List.not_mem_nil, or_false, not_or]; omega)).trans hO509
                replace hA513 := (hu589 _ (by have z0 := yk4; simp only [List.mem_cons, List.not_mem_nil, or_false, not_or]; omega)).trans hA513
                replace hO514 := (hu589 _ (by have z0 := yk4; simp only [List.mem_cons, List.not_mem_nil, or_false, not_or]; omega)).trans hO514
                replace hA518 := (hu589 _ (by have z0 := yk4; simp only [List.mem_cons, List.not_mem_nil, or_false, not_or]; omega)).trans hA518
                replace hO519 := (hu589 _ (by have z0 := yk4; simp only [List.mem_cons, List.not_mem_nil, or_false, not_or]; omega)).trans hO519
                replace hA523 := (hu589 _ (by have z0 := yk4; simp only [List.mem_cons, List.not_mem_nil, or_false, not_or]; omega)).trans hA523
                replace hO524 := (hu589 _ (by have z0 := yk4; simp only [List.mem_cons, List.not_mem_nil, or_false, not_or]; omega)).trans hO524
                replace hA528 := (hu589 _ (by have z0 := yk4; simp only [List.mem_cons, List.not_mem_nil, or_false, not_or]; omega)).trans hA528
                replace hO395 := (hu589 _ (by have z0 := yk4; simp only [List.mem_cons, List.not_mem_nil, or_false, not_or]; omega)).trans hO395
                replace hA399 := (hu589 _ (by have z0 := yk4; simp only [List.mem_cons, List.not_mem_nil, or_false, not_or]; omega)).trans hA399
                replace hO400 := (hu589 _ (by have z0 := yk4; simp only [List.mem_cons, List.not_mem_nil, or_false, not_or]; omega)).trans hO400
                replace hA404 := (hu589 _ (by have z0 := yk4; simp only [List.mem_cons, List.not_mem_nil, or_false, not_or]; omega)).trans hA404
                replace hO405 := (hu589 _ (by have z0 := yk4; simp only [List.mem_cons, List.not_mem_nil, or_false, not_or]; omega)).trans hO405
                replace hA409 := (hu589 _ (by have z0 := yk4; simp only [List.mem_cons, List.not_mem_nil, or_false, not_or]; omega)).trans hA409
                replace hO410 := (hu589 _ (by have z0 := yk4; simp only [List.mem_cons, List.not_mem_nil, or_false, not_or]; omega)).trans hO410
                replace hA414 := (hu589 _ (by have z0 := yk4; simp only [List.mem_cons, List.not_mem_nil, or_false, not_or]; omega)).trans hA414
                replace hF := q_uc hF hu589 (by simp)
                have hR596 := (show F_NH_powerModulo_at_c142_8 x2 x3 x4 x5 t0_0 t0_1 t1_0 t2_0 t2_1 t3_0 t4_0 t4_1 t5_0 t6_0 t6_1 t7_0 t8_0 t8_1 t9_0 t10_0 t10_1 t11_0 t12_0 t12_1 t13_0 t14_0 t14_1 t15_0 t16_0 t16_1 t17_0 t18_0 t18_1 t19_0 lx88 lx140 p459 y396 y397 f398 y401 y402 f403 y406 y407 f408 y411 y412 f413 p555 y510 y511 f512 y515 y516 f517 y520 y521 f522 y525 y526 f527 p590 = (F_NH_powerModulo_at x2 x3 x4 x5 t0_0 t0_1 t1_0 t2_0 t2_1 t3_0 t4_0 t4_1 t5_0 t6_0 t6_1 t7_0 t8_0 t8_1 t9_0 t10_0 t10_1 t11_0 t12_0 t12_1 t13_0 t14_0 t14_1 t15_0 t16_0 t16_1 t17_0 t18_0 t18_1 t19_0) from Eq.trans (by rw [e591, e571, e570, e569, e568, e567, e566, e565, e564, e563, e562, e561, e560, e559, e558, e557, F_NH_powerModulo_at_c136_7.eq_1]) hR572)
                have hS597 := (show True ∧ S_NH_powerModulo_at_c142_8 x2 x3 x4 x5 t0_0 t0_1 t1_0 t2_0 t2_1 t3_0 t4_0 t4_1 t5_0 t6_0 t6_1 t7_0 t8_0 t8_1 t9_0 t10_0 t10_1 t11_0 t12_0 t12_1 t13_0 t14_0 t14_1 t15_0 t16_0 t16_1 t17_0 t18_0 t18_1 t19_0 lx88 lx140 p459 y396 y397 f398 y401 y402 f403 y406 y407 f408 y411 y412 f413 p555 y510 y511 f512 y515 y516 f517 y520 y521 f522 y525 y526 f527 p590 from (by rw [e591, e571, e570, e569, e568, e567, e566, e565, e564, e563, e562, e561, e560, e559, e558, e557]; have h := hS573; rw [S_NH_powerModulo_at_c136_7.eq_1] at h; replace h := q_s2 h; with_reducible exact h))
                exact q_outT hno C0 V (⟨p590.1, (he587.trans (congrArg qE ((congrArg (fun z => z.1) (hE585.trans e591.symm)) : cx586 = _))), c592, hI, hF, y510, y511, f512, y515, y516, f517, y520, y521, f522, y525, y526, f527, y396, y397, f398, y401, y402, f403, y406, y407, f408, y411, y412, f413, y581, y582, f583, hO509, hA513, hO514, hA518, hO519, hA523, hO524, hA528, hO395, hA399, hO400, hA404, hO405, hA409, hO410, hA414, hO580, hA584, (show (p590.1, y510, y511, f512, y515, y516, f517, y520, y521, f522, y525, y526, f527, y396, y397, f398, y401, y402, f403, y406, y407, f408, y411, y412, f413, y581, y582, f583) = (F_NH_powerModulo_at x2 x3 x4 x5 t0_0 t0_1 t1_0 t2_0 t2_1 t3_0 t4_0 t4_1 t5_0 t6_0 t6_1 t7_0 t8_0 t8_1 t9_0 t10_0 t10_1 t11_0 t12_0 t12_1 t13_0 t14_0 t14_1 t15_0 t16_0 t16_1 t17_0 t18_0 t18_1 t19_0) from Eq.trans (by rw [e595, e594, e593, F_NH_powerModulo_at_c142_8.eq_1, if_neg c592]) hR596)⟩) hce hcv hcl (Nat.le_of_ble_eq_true rfl) (Nat.le_of_ble_eq_true rfl)
              ·
                obtain ⟨hI, hZ9⟩ := hp579
                obtain ⟨hu616, hZ9⟩ := hZ9
                obtain ⟨y602, hZ9⟩ := hZ9
                obtain ⟨y603, hZ9⟩ := hZ9
                obtain ⟨f604, hZ9⟩ := hZ9
                obtain ⟨hO601, hZ9⟩ := hZ9
                obtain ⟨hA605, hZ9⟩ := hZ9
                obtain ⟨b606, hZ9⟩ := hZ9
                obtain ⟨b607, hZ9⟩ := hZ9
                obtain ⟨b608, hZ9⟩ := hZ9
                obtain ⟨b609, hZ9⟩ := hZ9
                obtain ⟨b610, hZ9⟩ := hZ9
                obtain ⟨b611, hZ9⟩ := hZ9
                obtain ⟨b612, hZ9⟩ := hZ9
                obtain ⟨b613, hZ9⟩ := hZ9
                obtain ⟨b614, hE615⟩ := hZ9
                replace hO601 : u578[k4]? = (some (q k4, .inr (2, [.ref (q (k4 + 1)), .int y602, .int y603])) : Option (Nat × va_E)) := hO601
                replace hA605 : u578[k4 + 1]? = (some (q (k4 + 1), .inl (g 0, (68 : Int32).toNatClampNeg, .inl f604)) : Option (Nat × va_E)) := hA605
                obtain ⟨p590, e591⟩ : ∃ z, z = (F_NH_keepWhole x5 y510 y511 f512 y530 y531 f532) := ⟨_, rfl⟩
                have c592 : p590.1 = (0 : Int32) := ((congrArg (fun z => z.1) (hE615.trans e591.symm)) : (0 : Int32) = _).symm
                have e618 : y602 = p590.2.1 := congrArg (fun z => z.2.1) (hE615.trans e591.symm)
                have e619 : y603 = p590.2.2.1 := congrArg (fun z => z.2.2.1) (hE615.trans e591.symm)
                have e620 : f604 = p590.2.2.2 := congrArg (fun z => z.2.2.2) (hE615.trans e591.symm)
                replace b606 : q_F (0 ≤ y602.toInt) := b606
                replace b607 : q_F (y602.toInt ≤ 68) := b607
                replace b608 : q_F (x5.toInt ≤ y602.toInt + 9) := b608
                replace b609 : q_F (y602.toInt ≤ x5.toInt + 68) := b609
                replace b610 : q_F (y602.toInt ≤ y510.toInt) := b610
                replace b611 : q_F (x5.toInt ≤ y603.toInt + 9) := b611
                replace b612 : q_F (y603.toInt ≤ x5.toInt + 1) := b612
                replace b613 : q_F (y511.toInt ≤ y603.toInt) := b613
                replace b614 : q_F (y603.toInt ≤ y511.toInt) := b614
                replace hO509 := (hu616 _ (by have z0 := yk4; simp only [List.mem_cons, List.not_mem_nil, or_false, not_or]; omega)).trans hO509
                replace hA513 := (hu616 _ (by have z0 := yk4; simp only [List.mem_cons, List.not_mem_nil, or_false, not_or]; omega)).trans hA513
                replace hO514 := (hu616 _ (by have z0 := yk4; simp only [List.mem_cons, List.not_mem_nil, or_false, not_or]; omega)).trans hO514
                replace hA518 := (hu616 _ (by have z0 := yk4; simp only [List.mem_cons, List.not_mem_nil, or_false, not_or]; omega)).trans hA518
                replace hO519 := (hu616 _ (by have z0 := yk4; simp only [List.mem_cons, List.not_mem_nil, or_false, not_or]; omega)).trans hO519
                replace hA523 := (hu616 _ (by have z0 := yk4; simp only [List.mem_cons, List.not_mem_nil, or_false, not_or]; omega)).trans hA523
                replace hO524 := (hu616 _ (by have z0 := yk4; simp only [List.mem_cons, List.not_mem_nil, or_false, not_or]; omega)).trans hO524
                replace hA528 := (hu616 _ (by have z0 := yk4; simp only [List.mem_cons, List.not_mem_nil, or_false, not_or]; omega)).trans hA528
                replace hO395 := (hu616 _ (by have z0 := yk4; simp only [List.mem_cons, List.not_mem_nil, or_false, not_or]; omega)).trans hO395
                replace hA399 := (hu616 _ (by have z0 := yk4; simp only [List.mem_cons, List.not_mem_nil, or_false, not_or]; omega)).trans hA399
                replace hO400 := (hu616 _ (by have z0 := yk4; simp only [List.mem_cons, List.not_mem_nil, or_false, not_or]; omega)).trans hO400
                replace hA404 := (hu616 _ (by have z0 := yk4; simp only [List.mem_cons, List.not_mem_nil, or_false, not_or]; omega)).trans hA404
                replace hO405 := (hu616 _ (by have z0 := yk4; simp only [List.mem_cons, List.not_mem_nil, or_false, not_or]; omega)).trans hO405
                replace hA409 := (hu616 _ (by have z0 := yk4; simp only [List.mem_cons, List.not_mem_nil, or_false, not_or]; omega)).trans hA409
                replace hO410 := (hu616 _ (by have z0 := yk4; simp only [List.mem_cons, List.not_mem_nil, or_false, not_or]; omega)).trans hO410
                replace hA414 := (hu616 _ (by have z0 := yk4; simp only [List.mem_cons, List.not_mem_nil, or_false, not_or]; omega)).trans hA414
                replace hF := q_uc hF hu616 (by simp)
                have hR596 := (show F_NH_powerModulo_at_c142_8 x2 x3 x4 x5 t0_0 t0_1 t1_0 t2_0 t2_1 t3_0 t4_0 t4_1 t5_0 t6_0 t6_1 t7_0 t8_0 t8_1 t9_0 t10_0 t10_1 t11_0 t12_0 t12_1 t13_0 t14_0 t14_1 t15_0 t16_0 t16_1 t17_0 t18_0 t18_1 t19_0 lx88 lx140 p459 y396 y397 f398 y401 y402 f403 y406 y407 f408 y411 y412 f413 p555 y510 y511 f512 y515 y516 f517 y520 y521 f522 y525 y526 f527 p590 = (F_NH_powerModulo_at x2 x3 x4 x5 t0_0 t0_1 t1_0 t2_0 t2_1 t3_0 t4_0 t4_1 t5_0 t6_0 t6_1 t7_0 t8_0 t8_1 t9_0 t10_0 t10_1 t11_0 t12_0 t12_1 t13_0 t14_0 t14_1 t15_0 t16_0 t16_1 t17_0 t18_0 t18_1 t19_0) from Eq.trans (by rw [e591, e571, e570, e569, e568, e567, e566, e565, e564, e563, e562, e561, e560, e559, e558, e557, F_NH_powerModulo_at_c136_7.eq_1]) hR572)
                have hS597 := (show True ∧ S_NH_powerModulo_at_c142_8 x2 x3 x4 x5 t0_0 t0_1 t1_0 t2_0 t2_1 t3_0 t4_0 t4_1 t5_0 t6_0 t6_1 t7_0 t8_0 t8_1 t9_0 t10_0 t10_1 t11_0 t12_0 t12_1 t13_0 t14_0 t14_1 t15_0 t16_0 t16_1 t17_0 t18_0 t18_1 t19_0 lx88 lx140 p459 y396 y397 f398 y401 y402 f403 y406 y407 f408 y411 y412 f413 p555 y510 y511 f512 y515 y516 f517 y520 y521 f522 y525 y526 f527 p590 from (by rw [e591, e571, e570, e569, e568, e567, e566, e565, e564, e563, e562, e561, e560, e559, e558, e557]; have h := hS573; rw [S_NH_powerModulo_at_c136_7.eq_1] at h; replace h := q_s2 h; with_reducible exact h))
                exact q_retX (q_retv C0 V (⟨hI, hF, y510, y511, f512, y515, y516, f517, y520, y521, f522, y525, y526, f527, y396, y397, f398, y401, y402, f403, y406, y407, f408, y411, y412, f413, y602, y603, f604, hO509, hA513, hO514, hA518, hO519, hA523, hO524, hA528, hO395, hA399, hO400, hA404, hO405, hA409, hO410, hA414, hO601, hA605, (show 0 ≤ y510.toInt from (by have t1 : 0 ≤ y516.toInt := b534; have t2 : y516.toInt ≤ y510.toInt := b537; omega)), (show y510.toInt ≤ 220 from (by have t1 : y516.toInt ≤ 0 := b535; have t2 : y510.toInt ≤ y520.toInt := b538; have t3 : y520.toInt ≤ y516.toInt + 220 := b543; omega)), (show 0 ≤ y511.toInt from (by have t1 : 0 ≤ y516.toInt := b534; have t2 : y521.toInt ≤ y511.toInt := b539; have t3 : y516.toInt ≤ y521.toInt := b545; omega)), (show y511.toInt ≤ 1 from (by have t1 : y516.toInt ≤ 0 := b535; have t2 : y511.toInt ≤ y521.toInt := b540; have t3 : y521.toInt ≤ y516.toInt + 1 := b544; omega)), (show 0 ≤ y515.toInt from (by have t1 : 0 ≤ y516.toInt := b534; have t2 : y516.toInt ≤ y515.toInt := b541; omega)), (show y515.toInt ≤ 220 from (by have t1 : y516.toInt ≤ 0 := b535; have t2 : y515.toInt ≤ y516.toInt + 220 := b542; omega)), (show 0 ≤ y516.toInt from (by first | with_reducible exact q_fe b534 | (have t1 : 0 ≤ y516.toInt := b534; omega))), (show y516.toInt ≤ 0 from (by first | with_reducible exact q_fe b535 | (have t1 : y516.toInt ≤ 0 := b535; omega))), (show 0 ≤ y520.toInt from (by have t1 : 0 ≤ y516.toInt := b534; have t2 : y516.toInt ≤ y510.toInt := b537; have t3 : y510.toInt ≤ y520.toInt := b538; omega)), (show y520.toInt ≤ 220 from (by have t1 : y516.toInt ≤ 0 := b535; have t2 : y520.toInt ≤ y516.toInt + 220 := b543; omega)), (show 0 ≤ y521.toInt from (by have t1 : 0 ≤ y516.toInt := b534; have t2 : y516.toInt ≤ y521.toInt := b545; omega)), (show y521.toInt ≤ 1 from (by have t1 : y516.toInt ≤ 0 := b535; have t2 : y521.toInt ≤ y516.toInt + 1 := b544; omega)), (show 0 ≤ y525.toInt from (by have t1 : 0 ≤ y516.toInt := b534; have t2 : y516.toInt ≤ y525.toInt := b547; omega)), (show y525.toInt ≤ 220 from (by have t1 : y516.toInt ≤ 0 := b535; have t2 : y525.toInt ≤ y516.toInt + 220 := b546; omega)), (show 0 ≤ y526.toInt from (by have t1 : 0 ≤ y516.toInt := b534; have t2 : y516.toInt ≤ y526.toInt := b549; omega)), (show y526.toInt ≤ 1 from (by have t1 : y516.toInt ≤ 0 := b535; have t2 : y526.toInt ≤ y516.toInt + 1 := b548; omega)), (show 0 ≤ y396.toInt from (by first | with_reducible exact q_fe b434 | (have t1 : 0 ≤ y396.toInt := b434; omega))), (show y396.toInt ≤ 220 from (by first | with_reducible exact q_fe b435 | (have t1 : y396.toInt ≤ 220 := b435; omega))), (show 0 ≤ y397.toInt from (by first | with_reducible exact q_fe b436 | (have t1 : 0 ≤ y397.toInt := b436; omega))), (show y397.toInt ≤ 1 from (by have t1 : 0 ≤ t16_1.toInt ∧ t16_1.toInt ≤ 1 := btt16_1; have t2 : y397.toInt ≤ t16_1.toInt := b453; omega)), (show 0 ≤ y401.toInt from (by first | with_reducible exact q_fe b437 | (have t1 : 0 ≤ y401.toInt := b437; omega))), (show y401.toInt ≤ 220 from (by first | with_reducible exact q_fe b438 | (have t1 : y401.toInt ≤ 220 := b438; omega))), (show 0 ≤ y402.toInt from (by first | with_reducible exact q_fe b439 | (have t1 : 0 ≤ y402.toInt := b439; omega))), (show y402.toInt ≤ 1 from (by have t1 : 0 ≤ t16_1.toInt ∧ t16_1.toInt ≤ 1 := btt16_1; have t2 : y402.toInt ≤ t16_1.toInt := b454; omega)), (show 0 ≤ y406.toInt from (by first | with_reducible exact q_fe b440 | (have t1 : 0 ≤ y406.toInt := b440; omega))), (show y406.toInt ≤ 220 from (by first | with_reducible exact q_fe b441 | (have t1 : y406.toInt ≤ 220 := b441; omega))), (show 0 ≤ y407.toInt from (by first | with_reducible exact q_fe b442 | (have t1 : 0 ≤ y407.toInt := b442; omega))), (show y407.toInt ≤ 1 from (by first | with_reducible exact q_fe b443 | (have t1 : y407.toInt ≤ 1 := b443; omega))), (show 0 ≤ y411.toInt from (by first | with_reducible exact q_fe b444 | (have t1 : 0 ≤ y411.toInt := b444; omega))), (show y411.toInt ≤ 220 from (by first | with_reducible exact q_fe b445 | (have t1 : y411.toInt ≤ 220 := b445; omega))), (show 0 ≤ y412.toInt from (by first | with_reducible exact q_fe b446 | (have t1 : 0 ≤ y412.toInt := b446; omega))), (show y412.toInt ≤ 1 from (by first | with_reducible exact q_fe b447 | (have t1 : y412.toInt ≤ 1 := b447; omega))), (show 0 ≤ y602.toInt from (by first | with_reducible exact q_fe b606 | (have t1 : 0 ≤ y602.toInt := b606; omega))), (show y602.toInt ≤ 68 from (by first | with_reducible exact q_fe b607 | (have t1 : y602.toInt ≤ 68 := b607; omega))), (show x2.toInt ≤ y516.toInt + 9 from (by have t1 : x2.toInt ≤ 9 := ob369; have t2 : 0 ≤ y516.toInt := b534; omega)), (show y516.toInt ≤ x2.toInt from (by have t1 : 0 ≤ x2.toInt := ob368; have t2 : y516.toInt ≤ 0 := b535; omega)), (show x3.toInt ≤ y516.toInt + 9 from (by have t1 : x3.toInt ≤ 9 := ob180; have t2 : 0 ≤ y516.toInt := b534; omega)), (show y516.toInt ≤ x3.toInt from (by have t1 : 0 ≤ x3.toInt := ob179; have t2 : y516.toInt ≤ 0 := b535; omega)), (show x4.toInt ≤ y516.toInt + 9 from (by have t1 : x4.toInt ≤ 9 := ob129; have t2 : 0 ≤ y516.toInt := b534; omega)), (show y516.toInt ≤ x4.toInt from (by have t1 : 0 ≤ x4.toInt := ob128; have t2 : y516.toInt ≤ 0 := b535; omega)), (show x5.toInt ≤ y602.toInt + 9 from (by first | with_reducible exact q_fe b608 | (have t1 : x5.toInt ≤ y602.toInt + 9 := b608; omega))), (show y602.toInt ≤ x5.toInt + 68 from (by first | with_reducible exact q_fe b609 | (have t1 : y602.toInt ≤ x5.toInt + 68 := b609; omega))), (show x5.toInt ≤ y603.toInt + 9 from (by first | with_reducible exact q_fe b611 | (have t1 : x5.toInt ≤ y603.toInt + 9 := b611; omega))), (show y603.toInt ≤ x5.toInt + 1 from (by first | with_reducible exact q_fe b612 | (have t1 : y603.toInt ≤ x5.toInt + 1 := b612; omega))), (show y510.toInt ≤ y520.toInt from (by first | with_reducible exact q_fe b538 | (have t1 : y510.toInt ≤ y520.toInt := b538; omega))), (show y602.toInt ≤ y510.toInt from (by first | with_reducible exact q_fe b610 | (have t1 : y602.toInt ≤ y510.toInt := b610; omega))), (show y603.toInt ≤ y511.toInt from (by first | with_reducible exact q_fe b614 | (have t1 : y603.toInt ≤ y511.toInt := b614; omega))), (show y511.toInt ≤ y603.toInt from (by first | with_reducible exact q_fe b613 | (have t1 : y511.toInt ≤ y603.toInt := b613; omega))), (show y603.toInt ≤ y521.toInt from (by have t1 : y511.toInt ≤ y521.toInt := b540; have t2 : y603.toInt ≤ y511.toInt := b614; omega)), (show y521.toInt ≤ y603.toInt from (by have t1 : y521.toInt ≤ y511.toInt := b539; have t2 : y511.toInt ≤ y603.toInt := b613; omega)), (show ((0 : Int32), y510, y511, f512, y515, y516, f517, y520, y521, f522, y525, y526, f527, y396, y397, f398, y401, y402, f403, y406, y407, f408, y411, y412, f413, y602, y603, f604) = (F_NH_powerModulo_at x2 x3 x4 x5 t0_0 t0_1 t1_0 t2_0 t2_1 t3_0 t4_0 t4_1 t5_0 t6_0 t6_1 t7_0 t8_0 t8_1 t9_0 t10_0 t10_1 t11_0 t12_0 t12_1 t13_0 t14_0 t14_1 t15_0 t16_0 t16_1 t17_0 t18_0 t18_1 t19_0) from Eq.trans (by rw [e620, e619, e618, F_NH_powerModulo_at_c142_8.eq_1, if_pos c592]) hR596)⟩) d_1_10_145)
      ·
        intro J161
        refine lv_if_le (tgt := 53) hx hb d_1_10_46 (by decide) (fun c621 => ?_) (fun c621 => ?_)
        ·
          refine lv_iconst (v := 0) hx hb d_1_10_53 (by decide) ?_
          exact J161 ((0 : Int32)) _ _ _ ws ⟨(show q_F (0 ≤ 0) from (show 0 ≤ 0 from by omega)), (show q_F (0 ≤ 1) from (show 0 ≤ 1 from by omega)), V, q_lw hl (q_lw1 0 rfl (q_lw1 1 rfl (q_lw1 2 rfl (q_lw1 3 rfl (q_lw1 4 rfl q_lw0))))), (show F_NH_powerModulo_at_J54 x2 x3 x4 x5 t0_0 t0_1 t1_0 t2_0 t2_1 t3_0 t4_0 t4_1 t5_0 t6_0 t6_1 t7_0 t8_0 t8_1 t9_0 t10_0 t10_1 t11_0 t12_0 t12_1 t13_0 t14_0 t14_1 t15_0 t16_0 t16_1 t17_0 t18_0 t18_1 t19_0 lx88 0 = (F_NH_powerModulo_at x2 x3 x4 x5 t0_0 t0_1 t1_0 t2_0 t2_1 t3_0 t4_0 t4_1 t5_0 t6_0 t6_1 t7_0 t8_0 t8_1 t9_0 t10_0 t10_1 t11_0 t12_0 t12_1 t13_0 t14_0 t14_1 t15_0 t16_0 t16_1 t17_0 t18_0 t18_1 t19_0) from Eq.trans (by have c621x := c621; rw [e139] at c621x; rw [F_NH_powerModulo_at_J34.eq_1, if_pos c123, if_pos c621x]) hR112), (show True ∧ S_NH_powerModulo_at_J54 x2 x3 x4 x5 t0_0 t0_1 t1_0 t2_0 t2_1 t3_0 t4_0 t4_1 t5_0 t6_0 t6_1 t7_0 t8_0 t8_1 t9_0 t10_0 t10_1 t11_0 t12_0 t12_1 t13_0 t14_0 t14_1 t15_0 t16_0 t16_1 t17_0 t18_0 t18_1 t19_0 lx88 0 from (by have h := hS113; rw [S_NH_powerModulo_at_J34.eq_1] at h; rw [if_pos c123] at h; replace h := q_s2 h; replace h := q_s2 h; have c621x := c621; rw [e139] at c621x; rw [if_pos c621x] at h; with_reducible exact h))⟩
        ·
          refine lv_iconst (v := 1) hx hb d_1_10_49 (by decide) ?_
          refine lv_goto (tgt := 54) hx hb d_1_10_50 (by decide) ?_
          exact J161 ((1 : Int32)) _ _ _ ws ⟨(show q_F (0 ≤ 1) from (show 0 ≤ 1 from by omega)), (show q_F (1 ≤ 1) from (show 1 ≤ 1 from by omega)), V, q_lw hl (q_lw1 0 rfl (q_lw1 1 rfl (q_lw1 2 rfl (q_lw1 3 rfl (q_lw1 4 rfl q_lw0))))), (show F_NH_powerModulo_at_J54 x2 x3 x4 x5 t0_0 t0_1 t1_0 t2_0 t2_1 t3_0 t4_0 t4_1 t5_0 t6_0 t6_1 t7_0 t8_0 t8_1 t9_0 t10_0 t10_1 t11_0 t12_0 t12_1 t13_0 t14_0 t14_1 t15_0 t16_0 t16_1 t17_0 t18_0 t18_1 t19_0 lx88 1 = (F_NH_powerModulo_at x2 x3 x4 x5 t0_0 t0_1 t1_0 t2_0 t2_1 t3_0 t4_0 t4_1 t5_0 t6_0 t6_1 t7_0 t8_0 t8_1 t9_0 t10_0 t10_1 t11_0 t12_0 t12_1 t13_0 t14_0 t14_1 t15_0 t16_0 t16_1 t17_0 t18_0 t18_1 t19_0) from Eq.trans (by have c621x := c621; rw [e139] at c621x; rw [F_NH_powerModulo_at_J34.eq_1, if_pos c123, if_neg c621x]) hR112), (show True ∧ S_NH_powerModulo_at_J54 x2 x3 x4 x5 t0_0 t0_1 t1_0 t2_0 t2_1 t3_0 t4_0 t4_1 t5_0 t6_0 t6_1 t7_0 t8_0 t8_1 t9_0 t10_0 t10_1 t11_0 t12_0 t12_1 t13_0 t14_0 t14_1 t15_0 t16_0 t16_1 t17_0 t18_0 t18_1 t19_0 lx88 1 from (by have h := hS113; rw [S_NH_powerModulo_at_J34.eq_1] at h; rw [if_pos c123] at h; replace h := q_s2 h; replace h := q_s2 h; have c621x := c621; rw [e139] at c621x; rw [if_neg c621x] at h; with_reducible exact h))⟩
  ·
    intro J109
    refine q_join (X := Unit) (fun z H locs ls _ => q_Wd D g (va_A ws sz) s ws H locs ∧ lv_has ls 5 [(0, .ref (q 0)), (1, .int x2), (2, .int x3), (3, .int x4), (4, .int x5)] ∧ F_NH_powerModulo_at_J33 x2 x3 x4 x5 t0_0 t0_1 t1_0 t2_0 t2_1 t3_0 t4_0 t4_1 t5_0 t6_0 t6_1 t7_0 t8_0 t8_1 t9_0 t10_0 t10_1 t11_0 t12_0 t12_1 t13_0 t14_0 t14_1 t15_0 t16_0 t16_1 t17_0 t18_0 t18_1 t19_0 = (F_NH_powerModulo_at x2 x3 x4 x5 t0_0 t0_1 t1_0 t2_0 t2_1 t3_0 t4_0 t4_1 t5_0 t6_0 t6_1 t7_0 t8_0 t8_1 t9_0 t10_0 t10_1 t11_0 t12_0 t12_1 t13_0 t14_0 t14_1 t15_0 t16_0 t16_1 t17_0 t18_0 t18_1 t19_0) ∧ True ∧ S_NH_powerModulo_at_J33 x2 x3 x4 x5 t0_0 t0_1 t1_0 t2_0 t2_1 t3_0 t4_0 t4_1 t5_0 t6_0 t6_1 t7_0 t8_0 t8_1 t9_0 t10_0 t10_1 t11_0 t12_0 t12_1 t13_0 t14_0 t14_1 t15_0 t16_0 t16_1 t17_0 t18_0 t18_1 t19_0) (fun z => []) 33 0 0 ?_ ?_
    ·
      rintro _ H locs ls _ ⟨V, hl, hR645, hS646⟩
      replace hl : lv_has ls 5 [(0, .ref (q 0)), (1, .int x2), (2, .int x3), (3, .int x4), (4, .int x5)] := hl
      refine lv_iconst (v := 0) hx hb d_1_10_33 (by decide) ?_
      exact J109 ((0 : Int32)) _ _ _ ws ⟨(show q_F (0 ≤ 0) from (show 0 ≤ 0 from by omega)), (show q_F (0 ≤ 1) from (show 0 ≤ 1 from by omega)), V, q_lw hl (q_lw1 0 rfl (q_lw1 1 rfl (q_lw1 2 rfl (q_lw1 3 rfl (q_lw1 4 rfl q_lw0))))), (show F_NH_powerModulo_at_J34 x2 x3 x4 x5 t0_0 t0_1 t1_0 t2_0 t2_1 t3_0 t4_0 t4_1 t5_0 t6_0 t6_1 t7_0 t8_0 t8_1 t9_0 t10_0 t10_1 t11_0 t12_0 t12_1 t13_0 t14_0 t14_1 t15_0 t16_0 t16_1 t17_0 t18_0 t18_1 t19_0 0 = (F_NH_powerModulo_at x2 x3 x4 x5 t0_0 t0_1 t1_0 t2_0 t2_1 t3_0 t4_0 t4_1 t5_0 t6_0 t6_1 t7_0 t8_0 t8_1 t9_0 t10_0 t10_1 t11_0 t12_0 t12_1 t13_0 t14_0 t14_1 t15_0 t16_0 t16_1 t17_0 t18_0 t18_1 t19_0) from Eq.trans (by rw [F_NH_powerModulo_at_J33.eq_1]) hR645), (show True ∧ S_NH_powerModulo_at_J34 x2 x3 x4 x5 t0_0 t0_1 t1_0 t2_0 t2_1 t3_0 t4_0 t4_1 t5_0 t6_0 t6_1 t7_0 t8_0 t8_1 t9_0 t10_0 t10_1 t11_0 t12_0 t12_1 t13_0 t14_0 t14_1 t15_0 t16_0 t16_1 t17_0 t18_0 t18_1 t19_0 0 from (by have h := hS646; rw [S_NH_powerModulo_at_J33.eq_1] at h; with_reducible exact h))⟩
    ·
      intro J644
      refine lv_if_eq (tgt := 33) hx hb d_1_10_4 (by decide) (fun c650 => ?_) (fun c650 => ?_)
      ·
        exact J644 (()) _ _ _ ws ⟨V, q_lw hl (q_lw1 0 rfl (q_lw1 1 rfl (q_lw1 2 rfl (q_lw1 3 rfl (q_lw1 4 rfl q_lw0))))), (show F_NH_powerModulo_at_J33 x2 x3 x4 x5 t0_0 t0_1 t1_0 t2_0 t2_1 t3_0 t4_0 t4_1 t5_0 t6_0 t6_1 t7_0 t8_0 t8_1 t9_0 t10_0 t10_1 t11_0 t12_0 t12_1 t13_0 t14_0 t14_1 t15_0 t16_0 t16_1 t17_0 t18_0 t18_1 t19_0 = (F_NH_powerModulo_at x2 x3 x4 x5 t0_0 t0_1 t1_0 t2_0 t2_1 t3_0 t4_0 t4_1 t5_0 t6_0 t6_1 t7_0 t8_0 t8_1 t9_0 t10_0 t10_1 t11_0 t12_0 t12_1 t13_0 t14_0 t14_1 t15_0 t16_0 t16_1 t17_0 t18_0 t18_1 t19_0) from (by have c650x := c650; rw [e87] at c650x; rw [F_NH_powerModulo_at.eq_1, if_pos c650x])), (show True ∧ S_NH_powerModulo_at_J33 x2 x3 x4 x5 t0_0 t0_1 t1_0 t2_0 t2_1 t3_0 t4_0 t4_1 t5_0 t6_0 t6_1 t7_0 t8_0 t8_1 t9_0 t10_0 t10_1 t11_0 t12_0 t12_1 t13_0 t14_0 t14_1 t15_0 t16_0 t16_1 t17_0 t18_0 t18_1 t19_0 from (by have h := hS; rw [S_NH_powerModulo_at.eq_1] at h; have c650x := c650; rw [e87] at c650x; rw [if_pos c650x] at h; with_reducible exact h))⟩
      ·
        refine lv_iload_n hx hb d_1_10_7 rfl (lv_at hl 2 rfl) ?_
        refine q_goi V (q_runS (As := [.int x3]) (rest := []) (d := 1) (mc := 0) (ms := 0) C0 V rfl LS_NH_212 (X_NH_isRegister l D g q ws  x3 hI   _) rfl hl.1 rfl (Nat.le_of_ble_eq_true rfl) ⟨by decide, by decide⟩ ⟨Nat.le_of_ble_eq_true rfl, Nat.le_of_ble_eq_true rfl⟩ d_1_10_8) (fun a655 u653 H locs hp654 V => ?_)
        obtain ⟨rfl, b656, b657, hE658⟩ := hp654
        have e659 : a655 = (F_NH_isRegister x3) := hE658
        clear b656
        clear b657
        refine lv_if_eq (tgt := 33) hx hb d_1_10_11 (by decide) (fun c660 => ?_) (fun c660 => ?_)
        ·
          exact J644 (()) _ _ _ ws ⟨V, q_lw hl (q_lw1 0 rfl (q_lw1 1 rfl (q_lw1 2 rfl (q_lw1 3 rfl (q_lw1 4 rfl q_lw0))))), (show F_NH_powerModulo_at_J33 x2 x3 x4 x5 t0_0 t0_1 t1_0 t2_0 t2_1 t3_0 t4_0 t4_1 t5_0 t6_0 t6_1 t7_0 t8_0 t8_1 t9_0 t10_0 t10_1 t11_0 t12_0 t12_1 t13_0 t14_0 t14_1 t15_0 t16_0 t16_1 t17_0 t18_0 t18_1 t19_0 = (F_NH_powerModulo_at x2 x3 x4 x5 t0_0 t0_1 t1_0 t2_0 t2_1 t3_0 t4_0 t4_1 t5_0 t6_0 t6_1 t7_0 t8_0 t8_1 t9_0 t10_0 t10_1 t11_0 t12_0 t12_1 t13_0 t14_0 t14_1 t15_0 t16_0 t16_1 t17_0 t18_0 t18_1 t19_0) from (by have c650x := c650; rw [e87] at c650x; have c660x := c660; rw [e659] at c660x; rw [F_NH_powerModulo_at.eq_1, if_neg c650x, if_pos c660x])), (show True ∧ S_NH_powerModulo_at_J33 x2 x3 x4 x5 t0_0 t0_1 t1_0 t2_0 t2_1 t3_0 t4_0 t4_1 t5_0 t6_0 t6_1 t7_0 t8_0 t8_1 t9_0 t10_0 t10_1 t11_0 t12_0 t12_1 t13_0 t14_0 t14_1 t15_0 t16_0 t16_1 t17_0 t18_0 t18_1 t19_0 from (by have h := hS; rw [S_NH_powerModulo_at.eq_1] at h; have c650x := c650; rw [e87] at c650x; rw [if_neg c650x] at h; have c660x := c660; rw [e659] at c660x; rw [if_pos c660x] at h; with_reducible exact h))⟩
        ·
          refine lv_iload_n hx hb d_1_10_14 rfl (lv_at hl 3 rfl) ?_
          refine q_goi V (q_runS (As := [.int x4]) (rest := []) (d := 1) (mc := 0) (ms := 0) C0 V rfl LS_NH_212 (X_NH_isRegister l D g q ws  x4 hI   _) rfl hl.1 rfl (Nat.le_of_ble_eq_true rfl) ⟨by decide, by decide⟩ ⟨Nat.le_of_ble_eq_true rfl, Nat.le_of_ble_eq_true rfl⟩ d_1_10_15) (fun a665 u663 H locs hp664 V => ?_)
          obtain ⟨rfl, b666, b667, hE668⟩ := hp664
          have e669 : a665 = (F_NH_isRegister x4) := hE668
          clear b666
          clear b667
          refine lv_if_eq (tgt := 33) hx hb d_1_10_18 (by decide) (fun c670 => ?_) (fun c670 => ?_)
          ·
            exact J644 (()) _ _ _ ws ⟨V, q_lw hl (q_lw1 0 rfl (q_lw1 1 rfl (q_lw1 2 rfl (q_lw1 3 rfl (q_lw1 4 rfl q_lw0))))), (show F_NH_powerModulo_at_J33 x2 x3 x4 x5 t0_0 t0_1 t1_0 t2_0 t2_1 t3_0 t4_0 t4_1 t5_0 t6_0 t6_1 t7_0 t8_0 t8_1 t9_0 t10_0 t10_1 t11_0 t12_0 t12_1 t13_0 t14_0 t14_1 t15_0 t16_0 t16_1 t17_0 t18_0 t18_1 t19_0 = (F_NH_powerModulo_at x2 x3 x4 x5 t0_0 t0_1 t1_0 t2_0 t2_1 t3_0 t4_0 t4_1 t5_0 t6_0 t6_1 t7_0 t8_0 t8_1 t9_0 t10_0 t10_1 t11_0 t12_0 t12_1 t13_0 t14_0 t14_1 t15_0 t16_0 t16_1 t17_0 t18_0 t18_1 t19_0) from (by have c650x := c650; rw [e87] at c650x; have c660x := c660; rw [e659] at c660x; have c670x := c670; rw [e669] at c670x; rw [F_NH_powerModulo_at.eq_1, if_neg c650x, if_neg c660x, if_pos c670x])), (show True ∧ S_NH_powerModulo_at_J33 x2 x3 x4 x5 t0_0 t0_1 t1_0 t2_0 t2_1 t3_0 t4_0 t4_1 t5_0 t6_0 t6_1 t7_0 t8_0 t8_1 t9_0 t10_0 t10_1 t11_0 t12_0 t12_1 t13_0 t14_0 t14_1 t15_0 t16_0 t16_1 t17_0 t18_0 t18_1 t19_0 from (by have h := hS; rw [S_NH_powerModulo_at.eq_1] at h; have c650x := c650; rw [e87] at c650x; rw [if_neg c650x] at h; have c660x := c660; rw [e659] at c660x; rw [if_neg c660x] at h; have c670x := c670; rw [e669] at c670x; rw [if_pos c670x] at h; with_reducible exact h))⟩
          ·
            refine lv_iload hx hb d_1_10_21 (lv_at hl 4 rfl) ?_
            refine q_goi V (q_runS (As := [.int x5]) (rest := []) (d := 1) (mc := 0) (ms := 0) C0 V rfl LS_NH_212 (X_NH_isRegister l D g q ws  x5 hI   _) rfl hl.1 rfl (Nat.le_of_ble_eq_true rfl) ⟨by decide, by decide⟩ ⟨Nat.le_of_ble_eq_true rfl, Nat.le_of_ble_eq_true rfl⟩ d_1_10_23) (fun a675 u673 H locs hp674 V => ?_)
            obtain ⟨rfl, b676, b677, hE678⟩ := hp674
            have e679 : a675 = (F_NH_isRegister x5) := hE678
            clear b676
            clear b677
            refine lv_if_eq (tgt := 33) hx hb d_1_10_26 (by decide) (fun c680 => ?_) (fun c680 => ?_)
            ·
              exact J644 (()) _ _ _ ws ⟨V, q_lw hl (q_lw1 0 rfl (q_lw1 1 rfl (q_lw1 2 rfl (q_lw1 3 rfl (q_lw1 4 rfl q_lw0))))), (show F_NH_powerModulo_at_J33 x2 x3 x4 x5 t0_0 t0_1 t1_0 t2_0 t2_1 t3_0 t4_0 t4_1 t5_0 t6_0 t6_1 t7_0 t8_0 t8_1 t9_0 t10_0 t10_1 t11_0 t12_0 t12_1 t13_0 t14_0 t14_1 t15_0 t16_0 t16_1 t17_0 t18_0 t18_1 t19_0 = (F_NH_powerModulo_at x2 x3 x4 x5 t0_0 t0_1 t1_0 t2_0 t2_1 t3_0 t4_0 t4_1 t5_0 t6_0 t6_1 t7_0 t8_0 t8_1 t9_0 t10_0 t10_1 t11_0 t12_0 t12_1 t13_0 t14_0 t14_1 t15_0 t16_0 t16_1 t17_0 t18_0 t18_1 t19_0) from (by have c650x := c650; rw [e87] at c650x; have c660x := c660; rw [e659] at c660x; have c670x := c670; rw [e669] at c670x; have c680x := c680; rw [e679] at c680x; rw [F_NH_powerModulo_at.eq_1, if_neg c650x, if_neg c660x, if_neg c670x, if_pos c680x])), (show True ∧ S_NH_powerModulo_at_J33 x2 x3 x4 x5 t0_0 t0_1 t1_0 t2_0 t2_1 t3_0 t4_0 t4_1 t5_0 t6_0 t6_1 t7_0 t8_0 t8_1 t9_0 t10_0 t10_1 t11_0 t12_0 t12_1 t13_0 t14_0 t14_1 t15_0 t16_0 t16_1 t17_0 t18_0 t18_1 t19_0 from (by have h := hS; rw [S_NH_powerModulo_at.eq_1] at h; have c650x := c650; rw [e87] at c650x; rw [if_neg c650x] at h; have c660x := c660; rw [e659] at c660x; rw [if_neg c660x] at h; have c670x := c670; rw [e669] at c670x; rw [if_neg c670x] at h; have c680x := c680; rw [e679] at c680x; rw [if_pos c680x] at h; with_reducible exact h))⟩
            ·
              refine lv_iconst (v := 1) hx hb d_1_10_29 (by decide) ?_
              refine lv_goto (tgt := 34) hx hb d_1_10_30 (by decide) ?_
              exact J109 ((1 : Int32)) _ _ _ ws ⟨(show q_F (0 ≤ 1) from (show 0 ≤ 1 from by omega)), (show q_F (1 ≤ 1) from (show 1 ≤ 1 from by omega)), V, q_lw hl (q_lw1 0 rfl (q_lw1 1 rfl (q_lw1 2 rfl (q_lw1 3 rfl (q_lw1 4 rfl q_lw0))))), (show F_NH_powerModulo_at_J34 x2 x3 x4 x5 t0_0 t0_1 t1_0 t2_0 t2_1 t3_0 t4_0 t4_1 t5_0 t6_0 t6_1 t7_0 t8_0 t8_1 t9_0 t10_0 t10_1 t11_0 t12_0 t12_1 t13_0 t14_0 t14_1 t15_0 t16_0 t16_1 t17_0 t18_0 t18_1 t19_0 1 = (F_NH_powerModulo_at x2 x3 x4 x5 t0_0 t0_1 t1_0 t2_0 t2_1 t3_0 t4_0 t4_1 t5_0 t6_0 t6_1 t7_0 t8_0 t8_1 t9_0 t10_0 t10_1 t11_0 t12_0 t12_1 t13_0 t14_0 t14_1 t15_0 t16_0 t16_1 t17_0 t18_0 t18_1 t19_0) from (by have c650x := c650; rw [e87] at c650x; have c660x := c660; rw [e659] at c660x; have c670x := c670; rw [e669] at c670x; have c680x := c680; rw [e679] at c680x; rw [F_NH_powerModulo_at.eq_1, if_neg c650x, if_neg c660x, if_neg c670x, if_neg c680x])), (show True ∧ S_NH_powerModulo_at_J34 x2 x3 x4 x5 t0_0 t0_1 t1_0 t2_0 t2_1 t3_0 t4_0 t4_1 t5_0 t6_0 t6_1 t7_0 t8_0 t8_1 t9_0 t10_0 t10_1 t11_0 t12_0 t12_1 t13_0 t14_0 t14_1 t15_0 t16_0 t16_1 t17_0 t18_0 t18_1 t19_0 1 from (by have h := hS; rw [S_NH_powerModulo_at.eq_1] at h; have c650x := c650; rw [e87] at c650x; rw [if_neg c650x] at h; have c660x := c660; rw [e659] at c660x; rw [if_neg c660x] at h; have c670x := c670; rw [e669] at c670x; rw [if_neg c670x] at h; have c680x := c680; rw [e679] at c680x; rw [if_neg c680x] at h; with_reducible exact h))⟩

