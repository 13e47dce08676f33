/-! NumberHouse, exactly: p7.powerModulo_aet -/
def F_NH_powerModulo_aet_c142 (x2 : Int32) (x3 : Int32) (x4 : Int32) (x5 : Int32) (t0_0 : Int32) (t0_1 : Int32) (t1_0 : (Nat → Int32)) (t2_0 : Int32) (t2_1 : Int32) (t3_0 : (Nat → Int32)) (t4_0 : Int32) (t4_1 : Int32) (t5_0 : (Nat → Int32)) (t6_0 : Int32) (t6_1 : Int32) (t7_0 : (Nat → Int32)) (t8_0 : Int32) (t8_1 : Int32) (t9_0 : (Nat → Int32)) (t10_0 : Int32) (t10_1 : Int32) (t11_0 : (Nat → Int32)) (t12_0 : Int32) (t12_1 : Int32) (t13_0 : (Nat → Int32)) (t14_0 : Int32) (t14_1 : Int32) (t15_0 : (Nat → Int32)) (t16_0 : Int32) (t16_1 : Int32) (t17_0 : (Nat → Int32)) (lx80 : Int32) (lx130 : Int32) (p217 : (Int32 × Int32 × (Nat → Int32) × Int32 × Int32 × (Nat → Int32) × Int32 × Int32 × (Nat → Int32))) (p288 : (Int32 × Int32 × (Nat → Int32) × Int32 × Int32 × (Nat → Int32) × Int32 × Int32 × (Nat → Int32) × Int32 × Int32 × (Nat → Int32) × Int32 × Int32 × (Nat → Int32))) (y243 : Int32) (y244 : Int32) (f245 : (Nat → Int32)) (y248 : Int32) (y249 : Int32) (f250 : (Nat → Int32)) (y253 : Int32) (y254 : Int32) (f255 : (Nat → Int32)) (y258 : Int32) (y259 : Int32) (f260 : (Nat → Int32)) (p323 : (Int32 × Int32 × Int32 × (Nat → Int32))) : Int32 × Int32 × Int32 × (Nat → Int32) × Int32 × Int32 × (Nat → Int32) × Int32 × Int32 × (Nat → Int32) × Int32 × Int32 × (Nat → Int32) × Int32 × Int32 × (Nat → Int32) × Int32 × Int32 × (Nat → Int32) × Int32 × Int32 × (Nat → Int32) × Int32 × Int32 × (Nat → Int32) × Int32 × Int32 × (Nat → Int32) := if p323.1 = (0 : Int32) then (((0 : Int32), y243, y244, f245, y248, y249, f250, y253, y254, f255, y258, y259, f260, t8_0, t8_1, t9_0, t10_0, t10_1, t11_0, t12_0, t12_1, t13_0, t14_0, t14_1, t15_0, (p323.2.1 : Int32), (p323.2.2.1 : Int32), (p323.2.2.2 : (Nat → Int32)))) else ((p323.1, y243, y244, f245, y248, y249, f250, y253, y254, f255, y258, y259, f260, t8_0, t8_1, t9_0, t10_0, t10_1, t11_0, t12_0, t12_1, t13_0, t14_0, t14_1, t15_0, (p323.2.1 : Int32), (p323.2.2.1 : Int32), (p323.2.2.2 : (Nat → Int32))))
def F_NH_powerModulo_aet_c136 (x2 : Int32) (x3 : Int32) (x4 : Int32) (x5 : Int32) (t0_0 : Int32) (t0_1 : Int32) (t1_0 : (Nat → Int32)) (t2_0 : Int32) (t2_1 : Int32) (t3_0 : (Nat → Int32)) (t4_0 : Int32) (t4_1 : Int32) (t5_0 : (Nat → Int32)) (t6_0 : Int32) (t6_1 : Int32) (t7_0 : (Nat → Int32)) (t8_0 : Int32) (t8_1 : Int32) (t9_0 : (Nat → Int32)) (t10_0 : Int32) (t10_1 : Int32) (t11_0 : (Nat → Int32)) (t12_0 : Int32) (t12_1 : Int32) (t13_0 : (Nat → Int32)) (t14_0 : Int32) (t14_1 : Int32) (t15_0 : (Nat → Int32)) (t16_0 : Int32) (t16_1 : Int32) (t17_0 : (Nat → Int32)) (lx80 : Int32) (lx130 : Int32) (p217 : (Int32 × Int32 × (Nat → Int32) × Int32 × Int32 × (Nat → Int32) × Int32 × Int32 × (Nat → Int32))) (p288 : (Int32 × Int32 × (Nat → Int32) × Int32 × Int32 × (Nat → Int32) × Int32 × Int32 × (Nat → Int32) × Int32 × Int32 × (Nat → Int32) × Int32 × Int32 × (Nat → Int32))) : Int32 × Int32 × Int32 × (Nat → Int32) × Int32 × Int32 × (Nat → Int32) × Int32 × Int32 × (Nat → Int32) × Int32 × Int32 × (Nat → Int32) × Int32 × Int32 × (Nat → Int32) × Int32 × Int32 × (Nat → Int32) × Int32 × Int32 × (Nat → Int32) × Int32 × Int32 × (Nat → Int32) × Int32 × Int32 × (Nat → Int32) := F_NH_powerModulo_aet_c142 x2 x3 x4 x5 t0_0 t0_1 t1_0 t2_0 t2_1 t3_0 t4_0 t4_1 t5_0 t6_0 t6_1 t7_0 t8_0 t8_1 t9_0 t10_0 t10_1 t11_0 t12_0 t12_1 t13_0 t14_0 t14_1 t15_0 t16_0 t16_1 t17_0 lx80 lx130 p217 p288 (p288.1 : Int32) (p288.2.1 : Int32) (p288.2.2.1 : (Nat → Int32)) (p288.2.2.2.1 : Int32) (p288.2.2.2.2.1 : Int32) (p288.2.2.2.2.2.1 : (Nat → Int32)) (p288.2.2.2.2.2.2.1 : Int32) (p288.2.2.2.2.2.2.2.1 : Int32) (p288.2.2.2.2.2.2.2.2.1 : (Nat → Int32)) (p288.2.2.2.2.2.2.2.2.2.1 : Int32) (p288.2.2.2.2.2.2.2.2.2.2.1 : Int32) (p288.2.2.2.2.2.2.2.2.2.2.2.1 : (Nat → Int32)) ((F_NH_keepWhole x5 (p288.1 : Int32) (p288.2.1 : Int32) (p288.2.2.1 : (Nat → Int32)) (p288.2.2.2.2.2.2.2.2.2.2.2.2.1 : Int32) (p288.2.2.2.2.2.2.2.2.2.2.2.2.2.1 : Int32) (p288.2.2.2.2.2.2.2.2.2.2.2.2.2.2 : (Nat → Int32))) : (Int32 × Int32 × Int32 × (Nat → Int32)))
def F_NH_powerModulo_aet_c117 (x2 : Int32) (x3 : Int32) (x4 : Int32) (x5 : Int32) (t0_0 : Int32) (t0_1 : Int32) (t1_0 : (Nat → Int32)) (t2_0 : Int32) (t2_1 : Int32) (t3_0 : (Nat → Int32)) (t4_0 : Int32) (t4_1 : Int32) (t5_0 : (Nat → Int32)) (t6_0 : Int32) (t6_1 : Int32) (t7_0 : (Nat → Int32)) (t8_0 : Int32) (t8_1 : Int32) (t9_0 : (Nat → Int32)) (t10_0 : Int32) (t10_1 : Int32) (t11_0 : (Nat → Int32)) (t12_0 : Int32) (t12_1 : Int32) (t13_0 : (Nat → Int32)) (t14_0 : Int32) (t14_1 : Int32) (t15_0 : (Nat → Int32)) (t16_0 : Int32) (t16_1 : Int32) (t17_0 : (Nat → Int32)) (lx80 : Int32) (lx130 : Int32) (p217 : (Int32 × Int32 × (Nat → Int32) × Int32 × Int32 × (Nat → Int32) × Int32 × Int32 × (Nat → Int32))) : Int32 × Int32 × Int32 × (Nat → Int32) × Int32 × Int32 × (Nat → Int32) × Int32 × Int32 × (Nat → Int32) × Int32 × Int32 × (Nat → Int32) × Int32 × Int32 × (Nat → Int32) × Int32 × Int32 × (Nat → Int32) × Int32 × Int32 × (Nat → Int32) × Int32 × Int32 × (Nat → Int32) × Int32 × Int32 × (Nat → Int32) := F_NH_powerModulo_aet_c136 x2 x3 x4 x5 t0_0 t0_1 t1_0 t2_0 t2_1 t3_0 t4_0 t4_1 t5_0 t6_0 t6_1 t7_0 t8_0 t8_1 t9_0 t10_0 t10_1 t11_0 t12_0 t12_1 t13_0 t14_0 t14_1 t15_0 t16_0 t16_1 t17_0 lx80 lx130 p217 ((F_Mil_powerBelow_a (68 : Int32) (p217.2.2.2.2.2.2.1 : Int32) (p217.2.2.2.2.2.2.2.1 : Int32) (p217.2.2.2.2.2.2.2.2 : (Nat → Int32)) (p217.1 : Int32) (p217.2.1 : Int32) (p217.2.2.1 : (Nat → Int32)) t4_0 t4_1 t5_0 t6_0 t6_1 t7_0 (p217.2.2.2.1 : Int32) (p217.2.2.2.2.1 : Int32) (p217.2.2.2.2.2.1 : (Nat → Int32))) : (Int32 × Int32 × (Nat → Int32) × Int32 × Int32 × (Nat → Int32) × Int32 × Int32 × (Nat → Int32) × Int32 × Int32 × (Nat → Int32) × Int32 × Int32 × (Nat → Int32)))
def F_NH_powerModulo_aet_c142_8 (x2 : Int32) (x3 : Int32) (x4 : Int32) (x5 : Int32) (t0_0 : Int32) (t0_1 : Int32) (t1_0 : (Nat → Int32)) (t2_0 : Int32) (t2_1 : Int32) (t3_0 : (Nat → Int32)) (t4_0 : Int32) (t4_1 : Int32) (t5_0 : (Nat → Int32)) (t6_0 : Int32) (t6_1 : Int32) (t7_0 : (Nat → Int32)) (t8_0 : Int32) (t8_1 : Int32) (t9_0 : (Nat → Int32)) (t10_0 : Int32) (t10_1 : Int32) (t11_0 : (Nat → Int32)) (t12_0 : Int32) (t12_1 : Int32) (t13_0 : (Nat → Int32)) (t14_0 : Int32) (t14_1 : Int32) (t15_0 : (Nat → Int32)) (t16_0 : Int32) (t16_1 : Int32) (t17_0 : (Nat → Int32)) (lx80 : Int32) (lx130 : Int32) (p447 : (Int32 × Int32 × Int32 × (Nat → Int32) × Int32 × Int32 × (Nat → Int32) × Int32 × Int32 × (Nat → Int32) × Int32 × Int32 × (Nat → Int32) × Int32 × Int32 × (Nat → Int32) × Int32 × Int32 × (Nat → Int32) × Int32 × Int32 × (Nat → Int32) × Int32 × Int32 × (Nat → Int32))) (y384 : Int32) (y385 : Int32) (f386 : (Nat → Int32)) (y389 : Int32) (y390 : Int32) (f391 : (Nat → Int32)) (y394 : Int32) (y395 : Int32) (f396 : (Nat → Int32)) (y399 : Int32) (y400 : Int32) (f401 : (Nat → Int32)) (p543 : (Int32 × Int32 × (Nat → Int32) × Int32 × Int32 × (Nat → Int32) × Int32 × Int32 × (Nat → Int32) × Int32 × Int32 × (Nat → Int32) × Int32 × Int32 × (Nat → Int32))) (y498 : Int32) (y499 : Int32) (f500 : (Nat → Int32)) (y503 : Int32) (y504 : Int32) (f505 : (Nat → Int32)) (y508 : Int32) (y509 : Int32) (f510 : (Nat → Int32)) (y513 : Int32) (y514 : Int32) (f515 : (Nat → Int32)) (p578 : (Int32 × Int32 × Int32 × (Nat → Int32))) : Int32 × Int32 × Int32 × (Nat → Int32) × Int32 × Int32 × (Nat → Int32) × Int32 × Int32 × (Nat → Int32) × Int32 × Int32 × (Nat → Int32) × Int32 × Int32 × (Nat → Int32) × Int32 × Int32 × (Nat → Int32) × Int32 × Int32 × (Nat → Int32) × Int32 × Int32 × (Nat → Int32) × Int32 × Int32 × (Nat → Int32) := if p578.1 = (0 : Int32) then (((0 : Int32), y498, y499, f500, y503, y504, f505, y508, y509, f510, y513, y514, f515, y384, y385, f386, y389, y390, f391, y394, y395, f396, y399, y400, f401, (p578.2.1 : Int32), (p578.2.2.1 : Int32), (p578.2.2.2 : (Nat → Int32)))) else ((p578.1, y498, y499, f500, y503, y504, f505, y508, y509, f510, y513, y514, f515, y384, y385, f386, y389, y390, f391, y394, y395, f396, y399, y400, f401, (p578.2.1 : Int32), (p578.2.2.1 : Int32), (p578.2.2.2 : (Nat → Int32))))
def F_NH_powerModulo_aet_c136_7 (x2 : Int32) (x3 : Int32) (x4 : Int32) (x5 : Int32) (t0_0 : Int32) (t0_1 : Int32) (t1_0 : (Nat → Int32)) (t2_0 : Int32) (t2_1 : Int32) (t3_0 : (Nat → Int32)) (t4_0 : Int32) (t4_1 : Int32) (t5_0 : (Nat → Int32)) (t6_0 : Int32) (t6_1 : Int32) (t7_0 : (Nat → Int32)) (t8_0 : Int32) (t8_1 : Int32) (t9_0 : (Nat → Int32)) (t10_0 : Int32) (t10_1 : Int32) (t11_0 : (Nat → Int32)) (t12_0 : Int32) (t12_1 : Int32) (t13_0 : (Nat → Int32)) (t14_0 : Int32) (t14_1 : Int32) (t15_0 : (Nat → Int32)) (t16_0 : Int32) (t16_1 : Int32) (t17_0 : (Nat → Int32)) (lx80 : Int32) (lx130 : Int32) (p447 : (Int32 × Int32 × Int32 × (Nat → Int32) × Int32 × Int32 × (Nat → Int32) × Int32 × Int32 × (Nat → Int32) × Int32 × Int32 × (Nat → Int32) × Int32 × Int32 × (Nat → Int32) × Int32 × Int32 × (Nat → Int32) × Int32 × Int32 × (Nat → Int32) × Int32 × Int32 × (Nat → Int32))) (y384 : Int32) (y385 : Int32) (f386 : (Nat → Int32)) (y389 : Int32) (y390 : Int32) (f391 : (Nat → Int32)) (y394 : Int32) (y395 : Int32) (f396 : (Nat → Int32)) (y399 : Int32) (y400 : Int32) (f401 : (Nat → Int32)) (p543 : (Int32 × Int32 × (Nat → Int32) × Int32 × Int32 × (Nat → Int32) × Int32 × Int32 × (Nat → Int32) × Int32 × Int32 × (Nat → Int32) × Int32 × Int32 × (Nat → Int32))) : Int32 × Int32 × Int32 × (Nat → Int32) × Int32 × Int32 × (Nat → Int32) × Int32 × Int32 × (Nat → Int32) × Int32 × Int32 × (Nat → Int32) × Int32 × Int32 × (Nat → Int32) × Int32 × Int32 × (Nat → Int32) × Int32 × Int32 × (Nat → Int32) × Int32 × Int32 × (Nat → Int32) × Int32 × Int32 × (Nat → Int32) := F_NH_powerModulo_aet_c142_8 x2 x3 x4 x5 t0_0 t0_1 t1_0 t2_0 t2_1 t3_0 t4_0 t4_1 t5_0 t6_0 t6_1 t7_0 t8_0 t8_1 t9_0 t10_0 t10_1 t11_0 t12_0 t12_1 t13_0 t14_0 t14_1 t15_0 t16_0 t16_1 t17_0 lx80 lx130 p447 y384 y385 f386 y389 y390 f391 y394 y395 f396 y399 y400 f401 p543 (p543.1 : Int32) (p543.2.1 : Int32) (p543.2.2.1 : (Nat → Int32)) (p543.2.2.2.1 : Int32) (p543.2.2.2.2.1 : Int32) (p543.2.2.2.2.2.1 : (Nat → Int32)) (p543.2.2.2.2.2.2.1 : Int32) (p543.2.2.2.2.2.2.2.1 : Int32) (p543.2.2.2.2.2.2.2.2.1 : (Nat → Int32)) (p543.2.2.2.2.2.2.2.2.2.1 : Int32) (p543.2.2.2.2.2.2.2.2.2.2.1 : Int32) (p543.2.2.2.2.2.2.2.2.2.2.2.1 : (Nat → Int32)) ((F_NH_keepWhole x5 (p543.1 : Int32) (p543.2.1 : Int32) (p543.2.2.1 : (Nat → Int32)) (p543.2.2.2.2.2.2.2.2.2.2.2.2.1 : Int32) (p543.2.2.2.2.2.2.2.2.2.2.2.2.2.1 : Int32) (p543.2.2.2.2.2.2.2.2.2.2.2.2.2.2 : (Nat → Int32))) : (Int32 × Int32 × Int32 × (Nat → Int32)))
def F_NH_powerModulo_aet_c85 (x2 : Int32) (x3 : Int32) (x4 : Int32) (x5 : Int32) (t0_0 : Int32) (t0_1 : Int32) (t1_0 : (Nat → Int32)) (t2_0 : Int32) (t2_1 : Int32) (t3_0 : (Nat → Int32)) (t4_0 : Int32) (t4_1 : Int32) (t5_0 : (Nat → Int32)) (t6_0 : Int32) (t6_1 : Int32) (t7_0 : (Nat → Int32)) (t8_0 : Int32) (t8_1 : Int32) (t9_0 : (Nat → Int32)) (t10_0 : Int32) (t10_1 : Int32) (t11_0 : (Nat → Int32)) (t12_0 : Int32) (t12_1 : Int32) (t13_0 : (Nat → Int32)) (t14_0 : Int32) (t14_1 : Int32) (t15_0 : (Nat → Int32)) (t16_0 : Int32) (t16_1 : Int32) (t17_0 : (Nat → Int32)) (lx80 : Int32) (lx130 : Int32) (p447 : (Int32 × Int32 × Int32 × (Nat → Int32) × Int32 × Int32 × (Nat → Int32) × Int32 × Int32 × (Nat → Int32) × Int32 × Int32 × (Nat → Int32) × Int32 × Int32 × (Nat → Int32) × Int32 × Int32 × (Nat → Int32) × Int32 × Int32 × (Nat → Int32) × Int32 × Int32 × (Nat → Int32))) : Int32 × Int32 × Int32 × (Nat → Int32) × Int32 × Int32 × (Nat → Int32) × Int32 × Int32 × (Nat → Int32) × Int32 × Int32 × (Nat → Int32) × Int32 × Int32 × (Nat → Int32) × Int32 × Int32 × (Nat → Int32) × Int32 × Int32 × (Nat → Int32) × Int32 × Int32 × (Nat → Int32) × Int32 × Int32 × (Nat → Int32) := if (F_NH_canHave (p447.1 : Int32)) = (0 : Int32) then (F_NH_powerModulo_aet_c136_7 x2 x3 x4 x5 t0_0 t0_1 t1_0 t2_0 t2_1 t3_0 t4_0 t4_1 t5_0 t6_0 t6_1 t7_0 t8_0 t8_1 t9_0 t10_0 t10_1 t11_0 t12_0 t12_1 t13_0 t14_0 t14_1 t15_0 t16_0 t16_1 t17_0 lx80 lx130 p447 (p447.2.2.2.2.2.2.2.2.2.2.1 : Int32) (p447.2.2.2.2.2.2.2.2.2.2.2.1 : Int32) (p447.2.2.2.2.2.2.2.2.2.2.2.2.1 : (Nat → Int32)) (p447.2.2.2.2.2.2.2.2.2.2.2.2.2.1 : Int32) (p447.2.2.2.2.2.2.2.2.2.2.2.2.2.2.1 : Int32) (p447.2.2.2.2.2.2.2.2.2.2.2.2.2.2.2.1 : (Nat → Int32)) (p447.2.2.2.2.2.2.2.2.2.2.2.2.2.2.2.2.1 : Int32) (p447.2.2.2.2.2.2.2.2.2.2.2.2.2.2.2.2.2.1 : Int32) (p447.2.2.2.2.2.2.2.2.2.2.2.2.2.2.2.2.2.2.1 : (Nat → Int32)) (p447.2.2.2.2.2.2.2.2.2.2.2.2.2.2.2.2.2.2.2.1 : Int32) (p447.2.2.2.2.2.2.2.2.2.2.2.2.2.2.2.2.2.2.2.2.1 : Int32) (p447.2.2.2.2.2.2.2.2.2.2.2.2.2.2.2.2.2.2.2.2.2.1 : (Nat → Int32)) ((F_Mil_powerBelow_a (68 : Int32) (p447.2.1 : Int32) (p447.2.2.1 : Int32) (p447.2.2.2.1 : (Nat → Int32)) (p447.2.2.2.2.1 : Int32) (p447.2.2.2.2.2.1 : Int32) (p447.2.2.2.2.2.2.1 : (Nat → Int32)) t4_0 t4_1 t5_0 (p447.2.2.2.2.2.2.2.1 : Int32) (p447.2.2.2.2.2.2.2.2.1 : Int32) (p447.2.2.2.2.2.2.2.2.2.1 : (Nat → Int32)) (p447.2.2.2.2.2.2.2.2.2.2.2.2.2.2.2.2.2.2.2.2.2.2.1 : Int32) (p447.2.2.2.2.2.2.2.2.2.2.2.2.2.2.2.2.2.2.2.2.2.2.2.1 : Int32) (p447.2.2.2.2.2.2.2.2.2.2.2.2.2.2.2.2.2.2.2.2.2.2.2.2 : (Nat → Int32))) : (Int32 × Int32 × (Nat → Int32) × Int32 × Int32 × (Nat → Int32) × Int32 × Int32 × (Nat → Int32) × Int32 × Int32 × (Nat → Int32) × Int32 × Int32 × (Nat → Int32)))) else (((F_NH_canHave (p447.1 : Int32)), (p447.2.1 : Int32), (p447.2.2.1 : Int32), (p447.2.2.2.1 : (Nat → Int32)), (p447.2.2.2.2.1 : Int32), (p447.2.2.2.2.2.1 : Int32), (p447.2.2.2.2.2.2.1 : (Nat → Int32)), t4_0, t4_1, t5_0, (p447.2.2.2.2.2.2.2.1 : Int32), (p447.2.2.2.2.2.2.2.2.1 : Int32), (p447.2.2.2.2.2.2.2.2.2.1 : (Nat → Int32)), (p447.2.2.2.2.2.2.2.2.2.2.1 : Int32), (p447.2.2.2.2.2.2.2.2.2.2.2.1 : Int32), (p447.2.2.2.2.2.2.2.2.2.2.2.2.1 : (Nat → Int32)), (p447.2.2.2.2.2.2.2.2.2.2.2.2.2.1 : Int32), (p447.2.2.2.2.2.2.2.2.2.2.2.2.2.2.1 : Int32), (p447.2.2.2.2.2.2.2.2.2.2.2.2.2.2.2.1 : (Nat → Int32)), (p447.2.2.2.2.2.2.2.2.2.2.2.2.2.2.2.2.1 : Int32), (p447.2.2.2.2.2.2.2.2.2.2.2.2.2.2.2.2.2.1 : Int32), (p447.2.2.2.2.2.2.2.2.2.2.2.2.2.2.2.2.2.2.1 : (Nat → Int32)), (p447.2.2.2.2.2.2.2.2.2.2.2.2.2.2.2.2.2.2.2.1 : Int32), (p447.2.2.2.2.2.2.2.2.2.2.2.2.2.2.2.2.2.2.2.2.1 : Int32), (p447.2.2.2.2.2.2.2.2.2.2.2.2.2.2.2.2.2.2.2.2.2.1 : (Nat → Int32)), (p447.2.2.2.2.2.2.2.2.2.2.2.2.2.2.2.2.2.2.2.2.2.2.1 : Int32), (p447.2.2.2.2.2.2.2.2.2.2.2.2.2.2.2.2.2.2.2.2.2.2.2.1 : Int32), (p447.2.2.2.2.2.2.2.2.2.2.2.2.2.2.2.2.2.2.2.2.2.2.2.2 : (Nat → Int32))))
def F_NH_powerModulo_aet_J54 (x2 : Int32) (x3 : Int32) (x4 : Int32) (x5 : Int32) (t0_0 : Int32) (t0_1 : Int32) (t1_0 : (Nat → Int32)) (t2_0 : Int32) (t2_1 : Int32) (t3_0 : (Nat → Int32)) (t4_0 : Int32) (t4_1 : Int32) (t5_0 : (Nat → Int32)) (t6_0 : Int32) (t6_1 : Int32) (t7_0 : (Nat → Int32)) (t8_0 : Int32) (t8_1 : Int32) (t9_0 : (Nat → Int32)) (t10_0 : Int32) (t10_1 : Int32) (t11_0 : (Nat → Int32)) (t12_0 : Int32) (t12_1 : Int32) (t13_0 : (Nat → Int32)) (t14_0 : Int32) (t14_1 : Int32) (t15_0 : (Nat → Int32)) (t16_0 : Int32) (t16_1 : Int32) (t17_0 : (Nat → Int32)) (lx80 : Int32) (lx130 : Int32) : Int32 × Int32 × Int32 × (Nat → Int32) × Int32 × Int32 × (Nat → Int32) × Int32 × Int32 × (Nat → Int32) × Int32 × Int32 × (Nat → Int32) × Int32 × Int32 × (Nat → Int32) × Int32 × Int32 × (Nat → Int32) × Int32 × Int32 × (Nat → Int32) × Int32 × Int32 × (Nat → Int32) × Int32 × Int32 × (Nat → Int32) := if (F_NH_canHave lx130) = (0 : Int32) then (if t16_1 = (0 : Int32) then (F_NH_powerModulo_aet_c117 x2 x3 x4 x5 t0_0 t0_1 t1_0 t2_0 t2_1 t3_0 t4_0 t4_1 t5_0 t6_0 t6_1 t7_0 t8_0 t8_1 t9_0 t10_0 t10_1 t11_0 t12_0 t12_1 t13_0 t14_0 t14_1 t15_0 t16_0 t16_1 t17_0 lx80 lx130 ((F_Mil_modulo_a (68 : Int32) (220 : Int32) t2_0 t2_1 t3_0 t16_0 t16_1 t17_0 t0_0 t0_1 t1_0) : (Int32 × Int32 × (Nat → Int32) × Int32 × Int32 × (Nat → Int32) × Int32 × Int32 × (Nat → Int32)))) else (F_NH_powerModulo_aet_c85 x2 x3 x4 x5 t0_0 t0_1 t1_0 t2_0 t2_1 t3_0 t4_0 t4_1 t5_0 t6_0 t6_1 t7_0 t8_0 t8_1 t9_0 t10_0 t10_1 t11_0 t12_0 t12_1 t13_0 t14_0 t14_1 t15_0 t16_0 t16_1 t17_0 lx80 lx130 ((F_Mil_inverse_a (68 : Int32) t0_0 t0_1 t1_0 t2_0 t2_1 t3_0 t6_0 t6_1 t7_0 t8_0 t8_1 t9_0 t10_0 t10_1 t11_0 t12_0 t12_1 t13_0 t14_0 t14_1 t15_0 t16_0 t16_1 t17_0) : (Int32 × Int32 × Int32 × (Nat → Int32) × Int32 × Int32 × (Nat → Int32) × Int32 × Int32 × (Nat → Int32) × Int32 × Int32 × (Nat → Int32) × Int32 × Int32 × (Nat → Int32) × Int32 × Int32 × (Nat → Int32) × Int32 × Int32 × (Nat → Int32) × Int32 × Int32 × (Nat → Int32))))) else (((F_NH_canHave lx130), t0_0, t0_1, t1_0, t2_0, t2_1, t3_0, t4_0, t4_1, t5_0, t6_0, t6_1, t7_0, t8_0, t8_1, t9_0, t10_0, t10_1, t11_0, t12_0, t12_1, t13_0, t14_0, t14_1, t15_0, t16_0, t16_1, t17_0))
def F_NH_powerModulo_aet_J34 (x2 : Int32) (x3 : Int32) (x4 : Int32) (x5 : Int32) (t0_0 : Int32) (t0_1 : Int32) (t1_0 : (Nat → Int32)) (t2_0 : Int32) (t2_1 : Int32) (t3_0 : (Nat → Int32)) (t4_0 : Int32) (t4_1 : Int32) (t5_0 : (Nat → Int32)) (t6_0 : Int32) (t6_1 : Int32) (t7_0 : (Nat → Int32)) (t8_0 : Int32) (t8_1 : Int32) (t9_0 : (Nat → Int32)) (t10_0 : Int32) (t10_1 : Int32) (t11_0 : (Nat → Int32)) (t12_0 : Int32) (t12_1 : Int32) (t13_0 : (Nat → Int32)) (t14_0 : Int32) (t14_1 : Int32) (t15_0 : (Nat → Int32)) (t16_0 : Int32) (t16_1 : Int32) (t17_0 : (Nat → Int32)) (lx80 : Int32) : Int32 × Int32 × Int32 × (Nat → Int32) × Int32 × Int32 × (Nat → Int32) × Int32 × Int32 × (Nat → Int32) × Int32 × Int32 × (Nat → Int32) × Int32 × Int32 × (Nat → Int32) × Int32 × Int32 × (Nat → Int32) × Int32 × Int32 × (Nat → Int32) × Int32 × Int32 × (Nat → Int32) × Int32 × Int32 × (Nat → Int32) := if (F_NH_need lx80) = (0 : Int32) then (if ((F_Big_sign (68 : Int32) t16_0 t16_1) : Int32) ≤ (0 : Int32) then (F_NH_powerModulo_aet_J54 x2 x3 x4 x5 t0_0 t0_1 t1_0 t2_0 t2_1 t3_0 t4_0 t4_1 t5_0 t6_0 t6_1 t7_0 t8_0 t8_1 t9_0 t10_0 t10_1 t11_0 t12_0 t12_1 t13_0 t14_0 t14_1 t15_0 t16_0 t16_1 t17_0 lx80 0) else (F_NH_powerModulo_aet_J54 x2 x3 x4 x5 t0_0 t0_1 t1_0 t2_0 t2_1 t3_0 t4_0 t4_1 t5_0 t6_0 t6_1 t7_0 t8_0 t8_1 t9_0 t10_0 t10_1 t11_0 t12_0 t12_1 t13_0 t14_0 t14_1 t15_0 t16_0 t16_1 t17_0 lx80 1)) else (((F_NH_need lx80), t0_0, t0_1, t1_0, t2_0, t2_1, t3_0, t4_0, t4_1, t5_0, t6_0, t6_1, t7_0, t8_0, t8_1, t9_0, t10_0, t10_1, t11_0, t12_0, t12_1, t13_0, t14_0, t14_1, t15_0, t16_0, t16_1, t17_0))
def F_NH_powerModulo_aet_J33 (x2 : Int32) (x3 : Int32) (x4 : Int32) (x5 : Int32) (t0_0 : Int32) (t0_1 : Int32) (t1_0 : (Nat → Int32)) (t2_0 : Int32) (t2_1 : Int32) (t3_0 : (Nat → Int32)) (t4_0 : Int32) (t4_1 : Int32) (t5_0 : (Nat → Int32)) (t6_0 : Int32) (t6_1 : Int32) (t7_0 : (Nat → Int32)) (t8_0 : Int32) (t8_1 : Int32) (t9_0 : (Nat → Int32)) (t10_0 : Int32) (t10_1 : Int32) (t11_0 : (Nat → Int32)) (t12_0 : Int32) (t12_1 : Int32) (t13_0 : (Nat → Int32)) (t14_0 : Int32) (t14_1 : Int32) (t15_0 : (Nat → Int32)) (t16_0 : Int32) (t16_1 : Int32) (t17_0 : (Nat → Int32)) : Int32 × Int32 × Int32 × (Nat → Int32) × Int32 × Int32 × (Nat → Int32) × Int32 × Int32 × (Nat → Int32) × Int32 × Int32 × (Nat → Int32) × Int32 × Int32 × (Nat → Int32) × Int32 × Int32 × (Nat → Int32) × Int32 × Int32 × (Nat → Int32) × Int32 × Int32 × (Nat → Int32) × Int32 × Int32 × (Nat → Int32) := F_NH_powerModulo_aet_J34 x2 x3 x4 x5 t0_0 t0_1 t1_0 t2_0 t2_1 t3_0 t4_0 t4_1 t5_0 t6_0 t6_1 t7_0 t8_0 t8_1 t9_0 t10_0 t10_1 t11_0 t12_0 t12_1 t13_0 t14_0 t14_1 t15_0 t16_0 t16_1 t17_0 0
def F_NH_powerModulo_aet (x2 : Int32) (x3 : Int32) (x4 : Int32) (x5 : Int32) (t0_0 : Int32) (t0_1 : Int32) (t1_0 : (Nat → Int32)) (t2_0 : Int32) (t2_1 : Int32) (t3_0 : (Nat → Int32)) (t4_0 : Int32) (t4_1 : Int32) (t5_0 : (Nat → Int32)) (t6_0 : Int32) (t6_1 : Int32) (t7_0 : (Nat → Int32)) (t8_0 : Int32) (t8_1 : Int32) (t9_0 : (Nat → Int32)) (t10_0 : Int32) (t10_1 : Int32) (t11_0 : (Nat → Int32)) (t12_0 : Int32) (t12_1 : Int32) (t13_0 : (Nat → Int32)) (t14_0 : Int32) (t14_1 : Int32) (t15_0 : (Nat → Int32)) (t16_0 : Int32) (t16_1 : Int32) (t17_0 : (Nat → Int32)) : Int32 × Int32 × Int32 × (Nat → Int32) × Int32 × Int32 × (Nat → Int32) × Int32 × Int32 × (Nat → Int32) × Int32 × Int32 × (Nat → Int32) × Int32 × Int32 × (Nat → Int32) × Int32 × Int32 × (Nat → Int32) × Int32 × Int32 × (Nat → Int32) × Int32 × Int32 × (Nat → Int32) × Int32 × Int32 × (Nat → Int32) := if ((F_NH_isRegister x2) : Int32) = (0 : Int32) then (F_NH_powerModulo_aet_J33 x2 x3 x4 x5 t0_0 t0_1 t1_0 t2_0 t2_1 t3_0 t4_0 t4_1 t5_0 t6_0 t6_1 t7_0 t8_0 t8_1 t9_0 t10_0 t10_1 t11_0 t12_0 t12_1 t13_0 t14_0 t14_1 t15_0 t16_0 t16_1 t17_0) else (if ((F_NH_isRegister x3) : Int32) = (0 : Int32) then (F_NH_powerModulo_aet_J33 x2 x3 x4 x5 t0_0 t0_1 t1_0 t2_0 t2_1 t3_0 t4_0 t4_1 t5_0 t6_0 t6_1 t7_0 t8_0 t8_1 t9_0 t10_0 t10_1 t11_0 t12_0 t12_1 t13_0 t14_0 t14_1 t15_0 t16_0 t16_1 t17_0) else (if ((F_NH_isRegister x4) : Int32) = (0 : Int32) then (F_NH_powerModulo_aet_J33 x2 x3 x4 x5 t0_0 t0_1 t1_0 t2_0 t2_1 t3_0 t4_0 t4_1 t5_0 t6_0 t6_1 t7_0 t8_0 t8_1 t9_0 t10_0 t10_1 t11_0 t12_0 t12_1 t13_0 t14_0 t14_1 t15_0 t16_0 t16_1 t17_0) else (if ((F_NH_isRegister x5) : Int32) = (0 : Int32) then (F_NH_powerModulo_aet_J33 x2 x3 x4 x5 t0_0 t0_1 t1_0 t2_0 t2_1 t3_0 t4_0 t4_1 t5_0 t6_0 t6_1 t7_0 t8_0 t8_1 t9_0 t10_0 t10_1 t11_0 t12_0 t12_1 t13_0 t14_0 t14_1 t15_0 t16_0 t16_1 t17_0) else (F_NH_powerModulo_aet_J34 x2 x3 x4 x5 t0_0 t0_1 t1_0 t2_0 t2_1 t3_0 t4_0 t4_1 t5_0 t6_0 t6_1 t7_0 t8_0 t8_1 t9_0 t10_0 t10_1 t11_0 t12_0 t12_1 t13_0 t14_0 t14_1 t15_0 t16_0 t16_1 t17_0 1))))
def S_NH_powerModulo_aet_c142 (x2 : Int32) (x3 : Int32) (x4 : Int32) (x5 : Int32) (t0_0 : Int32) (t0_1 : Int32) (t1_0 : (Nat → Int32)) (t2_0 : Int32) (t2_1 : Int32) (t3_0 : (Nat → Int32)) (t4_0 : Int32) (t4_1 : Int32) (t5_0 : (Nat → Int32)) (t6_0 : Int32) (t6_1 : Int32) (t7_0 : (Nat → Int32)) (t8_0 : Int32) (t8_1 : Int32) (t9_0 : (Nat → Int32)) (t10_0 : Int32) (t10_1 : Int32) (t11_0 : (Nat → Int32)) (t12_0 : Int32) (t12_1 : Int32) (t13_0 : (Nat → Int32)) (t14_0 : Int32) (t14_1 : Int32) (t15_0 : (Nat → Int32)) (t16_0 : Int32) (t16_1 : Int32) (t17_0 : (Nat → Int32)) (lx80 : Int32) (lx130 : Int32) (p217 : (Int32 × Int32 × (Nat → Int32) × Int32 × Int32 × (Nat → Int32) × Int32 × Int32 × (Nat → Int32))) (p288 : (Int32 × Int32 × (Nat → Int32) × Int32 × Int32 × (Nat → Int32) × Int32 × Int32 × (Nat → Int32) × Int32 × Int32 × (Nat → Int32) × Int32 × Int32 × (Nat → Int32))) (y243 : Int32) (y244 : Int32) (f245 : (Nat → Int32)) (y248 : Int32) (y249 : Int32) (f250 : (Nat → Int32)) (y253 : Int32) (y254 : Int32) (f255 : (Nat → Int32)) (y258 : Int32) (y259 : Int32) (f260 : (Nat → Int32)) (p323 : (Int32 × Int32 × Int32 × (Nat → Int32))) : Prop := if p323.1 = (0 : Int32) then (True) else (True)
def S_NH_powerModulo_aet_c136 (x2 : Int32) (x3 : Int32) (x4 : Int32) (x5 : Int32) (t0_0 : Int32) (t0_1 : Int32) (t1_0 : (Nat → Int32)) (t2_0 : Int32) (t2_1 : Int32) (t3_0 : (Nat → Int32)) (t4_0 : Int32) (t4_1 : Int32) (t5_0 : (Nat → Int32)) (t6_0 : Int32) (t6_1 : Int32) (t7_0 : (Nat → Int32)) (t8_0 : Int32) (t8_1 : Int32) (t9_0 : (Nat → Int32)) (t10_0 : Int32) (t10_1 : Int32) (t11_0 : (Nat → Int32)) (t12_0 : Int32) (t12_1 : Int32) (t13_0 : (Nat → Int32)) (t14_0 : Int32) (t14_1 : Int32) (t15_0 : (Nat → Int32)) (t16_0 : Int32) (t16_1 : Int32) (t17_0 : (Nat → Int32)) (lx80 : Int32) (lx130 : Int32) (p217 : (Int32 × Int32 × (Nat → Int32) × Int32 × Int32 × (Nat → Int32) × Int32 × Int32 × (Nat → Int32))) (p288 : (Int32 × Int32 × (Nat → Int32) × Int32 × Int32 × (Nat → Int32) × Int32 × Int32 × (Nat → Int32) × Int32 × Int32 × (Nat → Int32) × Int32 × Int32 × (Nat → Int32))) : Prop := (True ∧ S_NH_keepWhole x5 (p288.1 : Int32) (p288.2.1 : Int32) (p288.2.2.1 : (Nat → Int32)) (p288.2.2.2.2.2.2.2.2.2.2.2.2.1 : Int32) (p288.2.2.2.2.2.2.2.2.2.2.2.2.2.1 : Int32) (p288.2.2.2.2.2.2.2.2.2.2.2.2.2.2 : (Nat → Int32))) ∧ (S_NH_powerModulo_aet_c142 x2 x3 x4 x5 t0_0 t0_1 t1_0 t2_0 t2_1 t3_0 t4_0 t4_1 t5_0 t6_0 t6_1 t7_0 t8_0 t8_1 t9_0 t10_0 t10_1 t11_0 t12_0 t12_1 t13_0 t14_0 t14_1 t15_0 t16_0 t16_1 t17_0 lx80 lx130 p217 p288 (p288.1 : Int32) (p288.2.1 : Int32) (p288.2.2.1 : (Nat → Int32)) (p288.2.2.2.1 : Int32) (p288.2.2.2.2.1 : Int32) (p288.2.2.2.2.2.1 : (Nat → Int32)) (p288.2.2.2.2.2.2.1 : Int32) (p288.2.2.2.2.2.2.2.1 : Int32) (p288.2.2.2.2.2.2.2.2.1 : (Nat → Int32)) (p288.2.2.2.2.2.2.2.2.2.1 : Int32) (p288.2.2.2.2.2.2.2.2.2.2.1 : Int32) (p288.2.2.2.2.2.2.2.2.2.2.2.1 : (Nat → Int32)) ((F_NH_keepWhole x5 (p288.1 : Int32) (p288.2.1 : Int32) (p288.2.2.1 : (Nat → Int32)) (p288.2.2.2.2.2.2.2.2.2.2.2.2.1 : Int32) (p288.2.2.2.2.2.2.2.2.2.2.2.2.2.1 : Int32) (p288.2.2.2.2.2.2.2.2.2.2.2.2.2.2 : (Nat → Int32))) : (Int32 × Int32 × Int32 × (Nat → Int32))))
def S_NH_powerModulo_aet_c117 (x2 : Int32) (x3 : Int32) (x4 : Int32) (x5 : Int32) (t0_0 : Int32) (t0_1 : Int32) (t1_0 : (Nat → Int32)) (t2_0 : Int32) (t2_1 : Int32) (t3_0 : (Nat → Int32)) (t4_0 : Int32) (t4_1 : Int32) (t5_0 : (Nat → Int32)) (t6_0 : Int32) (t6_1 : Int32) (t7_0 : (Nat → Int32)) (t8_0 : Int32) (t8_1 : Int32) (t9_0 : (Nat → Int32)) (t10_0 : Int32) (t10_1 : Int32) (t11_0 : (Nat → Int32)) (t12_0 : Int32) (t12_1 : Int32) (t13_0 : (Nat → Int32)) (t14_0 : Int32) (t14_1 : Int32) (t15_0 : (Nat → Int32)) (t16_0 : Int32) (t16_1 : Int32) (t17_0 : (Nat → Int32)) (lx80 : Int32) (lx130 : Int32) (p217 : (Int32 × Int32 × (Nat → Int32) × Int32 × Int32 × (Nat → Int32) × Int32 × Int32 × (Nat → Int32))) : Prop := (True ∧ S_Mil_powerBelow_a (68 : Int32) (p217.2.2.2.2.2.2.1 : Int32) (p217.2.2.2.2.2.2.2.1 : Int32) (p217.2.2.2.2.2.2.2.2 : (Nat → Int32)) (p217.1 : Int32) (p217.2.1 : Int32) (p217.2.2.1 : (Nat → Int32)) t4_0 t4_1 t5_0 t6_0 t6_1 t7_0 (p217.2.2.2.1 : Int32) (p217.2.2.2.2.1 : Int32) (p217.2.2.2.2.2.1 : (Nat → Int32))) ∧ (S_NH_powerModulo_aet_c136 x2 x3 x4 x5 t0_0 t0_1 t1_0 t2_0 t2_1 t3_0 t4_0 t4_1 t5_0 t6_0 t6_1 t7_0 t8_0 t8_1 t9_0 t10_0 t10_1 t11_0 t12_0 t12_1 t13_0 t14_0 t14_1 t15_0 t16_0 t16_1 t17_0 lx80 lx130 p217 ((F_Mil_powerBelow_a (68 : Int32) (p217.2.2.2.2.2.2.1 : Int32) (p217.2.2.2.2.2.2.2.1 : Int32) (p217.2.2.2.2.2.2.2.2 : (Nat → Int32)) (p217.1 : Int32) (p217.2.1 : Int32) (p217.2.2.1 : (Nat → Int32)) t4_0 t4_1 t5_0 t6_0 t6_1 t7_0 (p217.2.2.2.1 : Int32) (p217.2.2.2.2.1 : Int32) (p217.2.2.2.2.2.1 : (Nat → Int32))) : (Int32 × Int32 × (Nat → Int32) × Int32 × Int32 × (Nat → Int32) × Int32 × Int32 × (Nat → Int32) × Int32 × Int32 × (Nat → Int32) × Int32 × Int32 × (Nat → Int32))))
def S_NH_powerModulo_aet_c142_8 (x2 : Int32) (x3 : Int32) (x4 : Int32) (x5 : Int32) (t0_0 : Int32) (t0_1 : Int32) (t1_0 : (Nat → Int32)) (t2_0 : Int32) (t2_1 : Int32) (t3_0 : (Nat → Int32)) (t4_0 : Int32) (t4_1 : Int32) (t5_0 : (Nat → Int32)) (t6_0 : Int32) (t6_1 : Int32) (t7_0 : (Nat → Int32)) (t8_0 : Int32) (t8_1 : Int32) (t9_0 : (Nat → Int32)) (t10_0 : Int32) (t10_1 : Int32) (t11_0 : (Nat → Int32)) (t12_0 : Int32) (t12_1 : Int32) (t13_0 : (Nat → Int32)) (t14_0 : Int32) (t14_1 : Int32) (t15_0 : (Nat → Int32)) (t16_0 : Int32) (t16_1 : Int32) (t17_0 : (Nat → Int32)) (lx80 : Int32) (lx130 : Int32) (p447 : (Int32 × Int32 × Int32 × (Nat → Int32) × Int32 × Int32 × (Nat → Int32) × Int32 × Int32 × (Nat → Int32) × Int32 × Int32 × (Nat → Int32) × Int32 × Int32 × (Nat → Int32) × Int32 × Int32 × (Nat → Int32) × Int32 × Int32 × (Nat → Int32) × Int32 × Int32 × (Nat → Int32))) (y384 : Int32) (y385 : Int32) (f386 : (Nat → Int32)) (y389 : Int32) (y390 : Int32) (f391 : (Nat → Int32)) (y394 : Int32) (y395 : Int32) (f396 : (Nat → Int32)) (y399 : Int32) (y400 : Int32) (f401 : (Nat → Int32)) (p543 : (Int32 × Int32 × (Nat → Int32) × Int32 × Int32 × (Nat → Int32) × Int32 × Int32 × (Nat → Int32) × Int32 × Int32 × (Nat → Int32) × Int32 × Int32 × (Nat → Int32))) (y498 : Int32) (y499 : Int32) (f500 : (Nat → Int32)) (y503 : Int32) (y504 : Int32) (f505 : (Nat → Int32)) (y508 : Int32) (y509 : Int32) (f510 : (Nat → Int32)) (y513 : Int32) (y514 : Int32) (f515 : (Nat → Int32)) (p578 : (Int32 × Int32 × Int32 × (Nat → Int32))) : Prop := if p578.1 = (0 : Int32) then (True) else (True)
def S_NH_powerModulo_aet_c136_7 (x2 : Int32) (x3 : Int32) (x4 : Int32) (x5 : Int32) (t0_0 : Int32) (t0_1 : Int32) (t1_0 : (Nat → Int32)) (t2_0 : Int32) (t2_1 : Int32) (t3_0 : (Nat → Int32)) (t4_0 : Int32) (t4_1 : Int32) (t5_0 : (Nat → Int32)) (t6_0 : Int32) (t6_1 : Int32) (t7_0 : (Nat → Int32)) (t8_0 : Int32) (t8_1 : Int32) (t9_0 : (Nat → Int32)) (t10_0 : Int32) (t10_1 : Int32) (t11_0 : (Nat → Int32)) (t12_0 : Int32) (t12_1 : Int32) (t13_0 : (Nat → Int32)) (t14_0 : Int32) (t14_1 : Int32) (t15_0 : (Nat → Int32)) (t16_0 : Int32) (t16_1 : Int32) (t17_0 : (Nat → Int32)) (lx80 : Int32) (lx130 : Int32) (p447 : (Int32 × Int32 × Int32 × (Nat → Int32) × Int32 × Int32 × (Nat → Int32) × Int32 × Int32 × (Nat → Int32) × Int32 × Int32 × (Nat → Int32) × Int32 × Int32 × (Nat → Int32) × Int32 × Int32 × (Nat → Int32) × Int32 × Int32 × (Nat → Int32) × Int32 × Int32 × (Nat → Int32))) (y384 : Int32) (y385 : Int32) (f386 : (Nat → Int32)) (y389 : Int32) (y390 : Int32) (f391 : (Nat → Int32)) (y394 : Int32) (y395 : Int32) (f396 : (Nat → Int32)) (y399 : Int32) (y400 : Int32) (f401 : (Nat → Int32)) (p543 : (Int32 × Int32 × (Nat → Int32) × Int32 × Int32 × (Nat → Int32) × Int32 × Int32 × (Nat → Int32) × Int32 × Int32 × (Nat → Int32) × Int32 × Int32 × (Nat → Int32))) : Prop := (True ∧ S_NH_keepWhole x5 (p543.1 : Int32) (p543.2.1 : Int32) (p543.2.2.1 : (Nat → Int32)) (p543.2.2.2.2.2.2.2.2.2.2.2.2.1 : Int32) (p543.2.2.2.2.2.2.2.2.2.2.2.2.2.1 : Int32) (p543.2.2.2.2.2.2.2.2.2.2.2.2.2.2 : (Nat → Int32))) ∧ (S_NH_powerModulo_aet_c142_8 x2 x3 x4 x5 t0_0 t0_1 t1_0 t2_0 t2_1 t3_0 t4_0 t4_1 t5_0 t6_0 t6_1 t7_0 t8_0 t8_1 t9_0 t10_0 t10_1 t11_0 t12_0 t12_1 t13_0 t14_0 t14_1 t15_0 t16_0 t16_1 t17_0 lx80 lx130 p447 y384 y385 f386 y389 y390 f391 y394 y395 f396 y399 y400 f401 p543 (p543.1 : Int32) (p543.2.1 : Int32) (p543.2.2.1 : (Nat → Int32)) (p543.2.2.2.1 : Int32) (p543.2.2.2.2.1 : Int32) (p543.2.2.2.2.2.1 : (Nat → Int32)) (p543.2.2.2.2.2.2.1 : Int32) (p543.2.2.2.2.2.2.2.1 : Int32) (p543.2.2.2.2.2.2.2.2.1 : (Nat → Int32)) (p543.2.2.2.2.2.2.2.2.2.1 : Int32) (p543.2.2.2.2.2.2.2.2.2.2.1 : Int32) (p543.2.2.2.2.2.2.2.2.2.2.2.1 : (Nat → Int32)) ((F_NH_keepWhole x5 (p543.1 : Int32) (p543.2.1 : Int32) (p543.2.2.1 : (Nat → Int32)) (p543.2.2.2.2.2.2.2.2.2.2.2.2.1 : Int32) (p543.2.2.2.2.2.2.2.2.2.2.2.2.2.1 : Int32) (p543.2.2.2.2.2.2.2.2.2.2.2.2.2.2 : (Nat → Int32))) : (Int32 × Int32 × Int32 × (Nat → Int32))))
def S_NH_powerModulo_aet_c85 (x2 : Int32) (x3 : Int32) (x4 : Int32) (x5 : Int32) (t0_0 : Int32) (t0_1 : Int32) (t1_0 : (Nat → Int32)) (t2_0 : Int32) (t2_1 : Int32) (t3_0 : (Nat → Int32)) (t4_0 : Int32) (t4_1 : Int32) (t5_0 : (Nat → Int32)) (t6_0 : Int32) (t6_1 : Int32) (t7_0 : (Nat → Int32)) (t8_0 : Int32) (t8_1 : Int32) (t9_0 : (Nat → Int32)) (t10_0 : Int32) (t10_1 : Int32) (t11_0 : (Nat → Int32)) (t12_0 : Int32) (t12_1 : Int32) (t13_0 : (Nat → Int32)) (t14_0 : Int32) (t14_1 : Int32) (t15_0 : (Nat → Int32)) (t16_0 : Int32) (t16_1 : Int32) (t17_0 : (Nat → Int32)) (lx80 : Int32) (lx130 : Int32) (p447 : (Int32 × Int32 × Int32 × (Nat → Int32) × Int32 × Int32 × (Nat → Int32) × Int32 × Int32 × (Nat → Int32) × Int32 × Int32 × (Nat → Int32) × Int32 × Int32 × (Nat → Int32) × Int32 × Int32 × (Nat → Int32) × Int32 × Int32 × (Nat → Int32) × Int32 × Int32 × (Nat → Int32))) : Prop := if (F_NH_canHave (p447.1 : Int32)) = (0 : Int32) then ((True ∧ S_Mil_powerBelow_a (68 : Int32) (p447.2.1 : Int32) (p447.2.2.1 : Int32) (p447.2.2.2.1 : (Nat → Int32)) (p447.2.2.2.2.1 : Int32) (p447.2.2.2.2.2.1 : Int32) (p447.2.2.2.2.2.2.1 : (Nat → Int32)) t4_0 t4_1 t5_0 (p447.2.2.2.2.2.2.2.1 : Int32) (p447.2.2.2.2.2.2.2.2.1 : Int32) (p447.2.2.2.2.2.2.2.2.2.1 : (Nat → Int32)) (p447.2.2.2.2.2.2.2.2.2.2.2.2.2.2.2.2.2.2.2.2.2.2.1 : Int32) (p447.2.2.2.2.2.2.2.2.2.2.2.2.2.2.2.2.2.2.2.2.2.2.2.1 : Int32) (p447.2.2.2.2.2.2.2.2.2.2.2.2.2.2.2.2.2.2.2.2.2.2.2.2 : (Nat → Int32))) ∧ (S_NH_powerModulo_aet_c136_7 x2 x3 x4 x5 t0_0 t0_1 t1_0 t2_0 t2_1 t3_0 t4_0 t4_1 t5_0 t6_0 t6_1 t7_0 t8_0 t8_1 t9_0 t10_0 t10_1 t11_0 t12_0 t12_1 t13_0 t14_0 t14_1 t15_0 t16_0 t16_1 t17_0 lx80 lx130 p447 (p447.2.2.2.2.2.2.2.2.2.2.1 : Int32) (p447.2.2.2.2.2.2.2.2.2.2.2.1 : Int32) (p447.2.2.2.2.2.2.2.2.2.2.2.2.1 : (Nat → Int32)) (p447.2.2.2.2.2.2.2.2.2.2.2.2.2.1 : Int32) (p447.2.2.2.2.2.2.2.2.2.2.2.2.2.2.1 : Int32) (p447.2.2.2.2.2.2.2.2.2.2.2.2.2.2.2.1 : (Nat → Int32)) (p447.2.2.2.2.2.2.2.2.2.2.2.2.2.2.2.2.1 : Int32) (p447.2.2.2.2.2.2.2.2.2.2.2.2.2.2.2.2.2.1 : Int32) (p447.2.2.2.2.2.2.2.2.2.2.2.2.2.2.2.2.2.2.1 : (Nat → Int32)) (p447.2.2.2.2.2.2.2.2.2.2.2.2.2.2.2.2.2.2.2.1 : Int32) (p447.2.2.2.2.2.2.2.2.2.2.2.2.2.2.2.2.2.2.2.2.1 : Int32) (p447.2.2.2.2.2.2.2.2.2.2.2.2.2.2.2.2.2.2.2.2.2.1 : (Nat → Int32)) ((F_Mil_powerBelow_a (68 : Int32) (p447.2.1 : Int32) (p447.2.2.1 : Int32) (p447.2.2.2.1 : (Nat → Int32)) (p447.2.2.2.2.1 : Int32) (p447.2.2.2.2.2.1 : Int32) (p447.2.2.2.2.2.2.1 : (Nat → Int32)) t4_0 t4_1 t5_0 (p447.2.2.2.2.2.2.2.1 : Int32) (p447.2.2.2.2.2.2.2.2.1 : Int32) (p447.2.2.2.2.2.2.2.2.2.1 : (Nat → Int32)) (p447.2.2.2.2.2.2.2.2.2.2.2.2.2.2.2.2.2.2.2.2.2.2.1 : Int32) (p447.2.2.2.2.2.2.2.2.2.2.2.2.2.2.2.2.2.2.2.2.2.2.2.1 : Int32) (p447.2.2.2.2.2.2.2.2.2.2.2.2.2.2.2.2.2.2.2.2.2.2.2.2 : (Nat → Int32))) : (Int32 × Int32 × (Nat → Int32) × Int32 × Int32 × (Nat → Int32) × Int32 × Int32 × (Nat → Int32) × Int32 × Int32 × (Nat → Int32) × Int32 × Int32 × (Nat → Int32))))) else (True)
def S_NH_powerModulo_aet_J54 (x2 : Int32) (x3 : Int32) (x4 : Int32) (x5 : Int32) (t0_0 : Int32) (t0_1 : Int32) (t1_0 : (Nat → Int32)) (t2_0 : Int32) (t2_1 : Int32) (t3_0 : (Nat → Int32)) (t4_0 : Int32) (t4_1 : Int32) (t5_0 : (Nat → Int32)) (t6_0 : Int32) (t6_1 : Int32) (t7_0 : (Nat → Int32)) (t8_0 : Int32) (t8_1 : Int32) (t9_0 : (Nat → Int32)) (t10_0 : Int32) (t10_1 : Int32) (t11_0 : (Nat → Int32)) (t12_0 : Int32) (t12_1 : Int32) (t13_0 : (Nat → Int32)) (t14_0 : Int32) (t14_1 : Int32) (t15_0 : (Nat → Int32)) (t16_0 : Int32) (t16_1 : Int32) (t17_0 : (Nat → Int32)) (lx80 : Int32) (lx130 : Int32) : Prop := if (F_NH_canHave lx130) = (0 : Int32) then ((0 ≤ x3.toInt) ∧ ((x3.toInt ≤ 9) ∧ (if t16_1 = (0 : Int32) then ((0 ≤ x2.toInt) ∧ ((x2.toInt ≤ 9) ∧ ((True ∧ S_Mil_modulo_a (68 : Int32) (220 : Int32) t2_0 t2_1 t3_0 t16_0 t16_1 t17_0 t0_0 t0_1 t1_0) ∧ (S_NH_powerModulo_aet_c117 x2 x3 x4 x5 t0_0 t0_1 t1_0 t2_0 t2_1 t3_0 t4_0 t4_1 t5_0 t6_0 t6_1 t7_0 t8_0 t8_1 t9_0 t10_0 t10_1 t11_0 t12_0 t12_1 t13_0 t14_0 t14_1 t15_0 t16_0 t16_1 t17_0 lx80 lx130 ((F_Mil_modulo_a (68 : Int32) (220 : Int32) t2_0 t2_1 t3_0 t16_0 t16_1 t17_0 t0_0 t0_1 t1_0) : (Int32 × Int32 × (Nat → Int32) × Int32 × Int32 × (Nat → Int32) × Int32 × Int32 × (Nat → Int32))))))) else ((0 ≤ x2.toInt) ∧ ((x2.toInt ≤ 9) ∧ ((True ∧ S_Mil_inverse_a (68 : Int32) t0_0 t0_1 t1_0 t2_0 t2_1 t3_0 t6_0 t6_1 t7_0 t8_0 t8_1 t9_0 t10_0 t10_1 t11_0 t12_0 t12_1 t13_0 t14_0 t14_1 t15_0 t16_0 t16_1 t17_0) ∧ (S_NH_powerModulo_aet_c85 x2 x3 x4 x5 t0_0 t0_1 t1_0 t2_0 t2_1 t3_0 t4_0 t4_1 t5_0 t6_0 t6_1 t7_0 t8_0 t8_1 t9_0 t10_0 t10_1 t11_0 t12_0 t12_1 t13_0 t14_0 t14_1 t15_0 t16_0 t16_1 t17_0 lx80 lx130 ((F_Mil_inverse_a (68 : Int32) t0_0 t0_1 t1_0 t2_0 t2_1 t3_0 t6_0 t6_1 t7_0 t8_0 t8_1 t9_0 t10_0 t10_1 t11_0 t12_0 t12_1 t13_0 t14_0 t14_1 t15_0 t16_0 t16_1 t17_0) : (Int32 × Int32 × Int32 × (Nat → Int32) × Int32 × Int32 × (Nat → Int32) × Int32 × Int32 × (Nat → Int32) × Int32 × Int32 × (Nat → Int32) × Int32 × Int32 × (Nat → Int32) × Int32 × Int32 × (Nat → Int32) × Int32 × Int32 × (Nat → Int32) × Int32 × Int32 × (Nat → Int32)))))))))) else (True)
def S_NH_powerModulo_aet_J34 (x2 : Int32) (x3 : Int32) (x4 : Int32) (x5 : Int32) (t0_0 : Int32) (t0_1 : Int32) (t1_0 : (Nat → Int32)) (t2_0 : Int32) (t2_1 : Int32) (t3_0 : (Nat → Int32)) (t4_0 : Int32) (t4_1 : Int32) (t5_0 : (Nat → Int32)) (t6_0 : Int32) (t6_1 : Int32) (t7_0 : (Nat → Int32)) (t8_0 : Int32) (t8_1 : Int32) (t9_0 : (Nat → Int32)) (t10_0 : Int32) (t10_1 : Int32) (t11_0 : (Nat → Int32)) (t12_0 : Int32) (t12_1 : Int32) (t13_0 : (Nat → Int32)) (t14_0 : Int32) (t14_1 : Int32) (t15_0 : (Nat → Int32)) (t16_0 : Int32) (t16_1 : Int32) (t17_0 : (Nat → Int32)) (lx80 : Int32) : Prop := if (F_NH_need lx80) = (0 : Int32) then ((0 ≤ x4.toInt) ∧ ((x4.toInt ≤ 9) ∧ (if ((F_Big_sign (68 : Int32) t16_0 t16_1) : Int32) ≤ (0 : Int32) then (S_NH_powerModulo_aet_J54 x2 x3 x4 x5 t0_0 t0_1 t1_0 t2_0 t2_1 t3_0 t4_0 t4_1 t5_0 t6_0 t6_1 t7_0 t8_0 t8_1 t9_0 t10_0 t10_1 t11_0 t12_0 t12_1 t13_0 t14_0 t14_1 t15_0 t16_0 t16_1 t17_0 lx80 0) else (S_NH_powerModulo_aet_J54 x2 x3 x4 x5 t0_0 t0_1 t1_0 t2_0 t2_1 t3_0 t4_0 t4_1 t5_0 t6_0 t6_1 t7_0 t8_0 t8_1 t9_0 t10_0 t10_1 t11_0 t12_0 t12_1 t13_0 t14_0 t14_1 t15_0 t16_0 t16_1 t17_0 lx80 1)))) else (True)
def S_NH_powerModulo_aet_J33 (x2 : Int32) (x3 : Int32) (x4 : Int32) (x5 : Int32) (t0_0 : Int32) (t0_1 : Int32) (t1_0 : (Nat → Int32)) (t2_0 : Int32) (t2_1 : Int32) (t3_0 : (Nat → Int32)) (t4_0 : Int32) (t4_1 : Int32) (t5_0 : (Nat → Int32)) (t6_0 : Int32) (t6_1 : Int32) (t7_0 : (Nat → Int32)) (t8_0 : Int32) (t8_1 : Int32) (t9_0 : (Nat → Int32)) (t10_0 : Int32) (t10_1 : Int32) (t11_0 : (Nat → Int32)) (t12_0 : Int32) (t12_1 : Int32) (t13_0 : (Nat → Int32)) (t14_0 : Int32) (t14_1 : Int32) (t15_0 : (Nat → Int32)) (t16_0 : Int32) (t16_1 : Int32) (t17_0 : (Nat → Int32)) : Prop := S_NH_powerModulo_aet_J34 x2 x3 x4 x5 t0_0 t0_1 t1_0 t2_0 t2_1 t3_0 t4_0 t4_1 t5_0 t6_0 t6_1 t7_0 t8_0 t8_1 t9_0 t10_0 t10_1 t11_0 t12_0 t12_1 t13_0 t14_0 t14_1 t15_0 t16_0 t16_1 t17_0 0
def S_NH_powerModulo_aet (x2 : Int32) (x3 : Int32) (x4 : Int32) (x5 : Int32) (t0_0 : Int32) (t0_1 : Int32) (t1_0 : (Nat → Int32)) (t2_0 : Int32) (t2_1 : Int32) (t3_0 : (Nat → Int32)) (t4_0 : Int32) (t4_1 : Int32) (t5_0 : (Nat → Int32)) (t6_0 : Int32) (t6_1 : Int32) (t7_0 : (Nat → Int32)) (t8_0 : Int32) (t8_1 : Int32) (t9_0 : (Nat → Int32)) (t10_0 : Int32) (t10_1 : Int32) (t11_0 : (Nat → Int32)) (t12_0 : Int32) (t12_1 : Int32) (t13_0 : (Nat → Int32)) (t14_0 : Int32) (t14_1 : Int32) (t15_0 : (Nat → Int32)) (t16_0 : Int32) (t16_1 : Int32) (t17_0 : (Nat → Int32)) : Prop := if ((F_NH_isRegister x2) : Int32) = (0 : Int32) then (S_NH_powerModulo_aet_J33 x2 x3 x4 x5 t0_0 t0_1 t1_0 t2_0 t2_1 t3_0 t4_0 t4_1 t5_0 t6_0 t6_1 t7_0 t8_0 t8_1 t9_0 t10_0 t10_1 t11_0 t12_0 t12_1 t13_0 t14_0 t14_1 t15_0 t16_0 t16_1 t17_0) else (if ((F_NH_isRegister x3) : Int32) = (0 : Int32) then (S_NH_powerModulo_aet_J33 x2 x3 x4 x5 t0_0 t0_1 t1_0 t2_0 t2_1 t3_0 t4_0 t4_1 t5_0 t6_0 t6_1 t7_0 t8_0 t8_1 t9_0 t10_0 t10_1 t11_0 t12_0 t12_1 t13_0 t14_0 t14_1 t15_0 t16_0 t16_1 t17_0) else (if ((F_NH_isRegister x4) : Int32) = (0 : Int32) then (S_NH_powerModulo_aet_J33 x2 x3 x4 x5 t0_0 t0_1 t1_0 t2_0 t2_1 t3_0 t4_0 t4_1 t5_0 t6_0 t6_1 t7_0 t8_0 t8_1 t9_0 t10_0 t10_1 t11_0 t12_0 t12_1 t13_0 t14_0 t14_1 t15_0 t16_0 t16_1 t17_0) else (if ((F_NH_isRegister x5) : Int32) = (0 : Int32) then (S_NH_powerModulo_aet_J33 x2 x3 x4 x5 t0_0 t0_1 t1_0 t2_0 t2_1 t3_0 t4_0 t4_1 t5_0 t6_0 t6_1 t7_0 t8_0 t8_1 t9_0 t10_0 t10_1 t11_0 t12_0 t12_1 t13_0 t14_0 t14_1 t15_0 t16_0 t16_1 t17_0) else (S_NH_powerModulo_aet_J34 x2 x3 x4 x5 t0_0 t0_1 t1_0 t2_0 t2_1 t3_0 t4_0 t4_1 t5_0 t6_0 t6_1 t7_0 t8_0 t8_1 t9_0 t10_0 t10_1 t11_0 t12_0 t12_1 t13_0 t14_0 t14_1 t15_0 t16_0 t16_1 t17_0 1))))
set_option maxRecDepth 100000 in
set_option maxHeartbeats 4000000 in
theorem X_NH_powerModulo_aet (l : Launch) (D : va_G) (g : Nat → ClassId) (q : Nat → Nat) (ws : va_W) (x2 : Int32) (x3 : Int32) (x4 : Int32) (x5 : Int32) (k4 : Nat) (hBk4 : q_isBig (nsh g q) g q k4 68) (yk4 : 66 ≤ k4) (gk4x2 : x2.toNatClampNeg < 10 → k4 = 66 + 5 * x2.toNatClampNeg) (gk4x3 : x3.toNatClampNeg < 10 → k4 = 66 + 5 * x3.toNatClampNeg) (gk4x4 : x4.toNatClampNeg < 10 → k4 = 66 + 5 * x4.toNatClampNeg) (gk4x5 : x5.toNatClampNeg < 10 → k4 = 66 + 5 * x5.toNatClampNeg) (hlt : l.stackTraces = false) (hI : q_I (nsh g q) q ws) (t0_0 : Int32) (t0_1 : Int32) (hT0 : ws[10]? = (some (q 10, .inr (2, [.ref (q 11), .int t0_0, .int t0_1])) : Option (Nat × va_E))) (t1_0 : (Nat → Int32)) (hT1 : ws[11]? = (some (q 11, .inl (g 0, (220 : Int32).toNatClampNeg, .inl t1_0)) : Option (Nat × va_E))) (t2_0 : Int32) (t2_1 : Int32) (hT2 : ws[12]? = (some (q 12, .inr (2, [.ref (q 13), .int t2_0, .int t2_1])) : Option (Nat × va_E))) (t3_0 : (Nat → Int32)) (hT3 : ws[13]? = (some (q 13, .inl (g 0, (220 : Int32).toNatClampNeg, .inl t3_0)) : Option (Nat × va_E))) (t4_0 : Int32) (t4_1 : Int32) (hT4 : ws[14]? = (some (q 14, .inr (2, [.ref (q 15), .int t4_0, .int t4_1])) : Option (Nat × va_E))) (t5_0 : (Nat → Int32)) (hT5 : ws[15]? = (some (q 15, .inl (g 0, (220 : Int32).toNatClampNeg, .inl t5_0)) : Option (Nat × va_E))) (t6_0 : Int32) (t6_1 : Int32) (hT6 : ws[18]? = (some (q 18, .inr (2, [.ref (q 19), .int t6_0, .int t6_1])) : Option (Nat × va_E))) (t7_0 : (Nat → Int32)) (hT7 : ws[19]? = (some (q 19, .inl (g 0, (220 : Int32).toNatClampNeg, .inl t7_0)) : Option (Nat × va_E))) (t8_0 : Int32) (t8_1 : Int32) (hT8 : ws[22]? = (some (q 22, .inr (2, [.ref (q 23), .int t8_0, .int t8_1])) : Option (Nat × va_E))) (t9_0 : (Nat → Int32)) (hT9 : ws[23]? = (some (q 23, .inl (g 0, (220 : Int32).toNatClampNeg, .inl t9_0)) : Option (Nat × va_E))) (t10_0 : Int32) (t10_1 : Int32) (hT10 : ws[24]? = (some (q 24, .inr (2, [.ref (q 25), .int t10_0, .int t10_1])) : Option (Nat × va_E))) (t11_0 : (Nat → Int32)) (hT11 : ws[25]? = (some (q 25, .inl (g 0, (220 : Int32).toNatClampNeg, .inl t11_0)) : Option (Nat × va_E))) (t12_0 : Int32) (t12_1 : Int32) (hT12 : ws[26]? = (some (q 26, .inr (2, [.ref (q 27), .int t12_0, .int t12_1])) : Option (Nat × va_E))) (t13_0 : (Nat → Int32)) (hT13 : ws[27]? = (some (q 27, .inl (g 0, (220 : Int32).toNatClampNeg, .inl t13_0)) : Option (Nat × va_E))) (t14_0 : Int32) (t14_1 : Int32) (hT14 : ws[28]? = (some (q 28, .inr (2, [.ref (q 29), .int t14_0, .int t14_1])) : Option (Nat × va_E))) (t15_0 : (Nat → Int32)) (hT15 : ws[29]? = (some (q 29, .inl (g 0, (220 : Int32).toNatClampNeg, .inl t15_0)) : Option (Nat × va_E))) (t16_0 : Int32) (t16_1 : Int32) (hT16 : ws[k4]? = (some (q k4, .inr (2, [.ref (q (k4 + 1)), .int t16_0, .int t16_1])) : Option (Nat × va_E))) (t17_0 : (Nat → Int32)) (hT17 : ws[k4 + 1]? = (some (q (k4 + 1), .inl (g 0, (68 : Int32).toNatClampNeg, .inl t17_0)) : Option (Nat × va_E))) (hS : True ∧ S_NH_powerModulo_aet x2 x3 x4 x5 t0_0 t0_1 t1_0 t2_0 t2_1 t3_0 t4_0 t4_1 t5_0 t6_0 t6_1 t7_0 t8_0 t8_1 t9_0 t10_0 t10_1 t11_0 t12_0 t12_1 t13_0 t14_0 t14_1 t15_0 t16_0 t16_1 t17_0) : ∀ sz, q_Mx l y_NH_powerModulo prog_1_method_10_code 5 none 9 4 24 D g [.ref (q 0), .int x2, .int x3, .int x4, .int x5] ws sz (va_Qv (fun u => q_I (nsh g q) q u ∧ q_un ws u [10, 11, 12, 13, 14, 15, 18, 19, 22, 23, 24, 25, 26, 27, 28, 29, k4, k4 + 1] ∧ ∃ (u0_0 : Int32) (u0_1 : Int32) (u1_0 : (Nat → Int32)) (u2_0 : Int32) (u2_1 : Int32) (u3_0 : (Nat → Int32)) (u4_0 : Int32) (u4_1 : Int32) (u5_0 : (Nat → Int32)) (u6_0 : Int32) (u6_1 : Int32) (u7_0 : (Nat → Int32)) (u8_0 : Int32) (u8_1 : Int32) (u9_0 : (Nat → Int32)) (u10_0 : Int32) (u10_1 : Int32) (u11_0 : (Nat → Int32)) (u12_0 : Int32) (u12_1 : Int32) (u13_0 : (Nat → Int32)) (u14_0 : Int32) (u14_1 : Int32) (u15_0 : (Nat → Int32)) (u16_0 : Int32) (u16_1 : Int32) (u17_0 : (Nat → Int32)), u[10]? = (some (q 10, .inr (2, [.ref (q 11), .int u0_0, .int u0_1])) : Option (Nat × va_E)) ∧ u[11]? = (some (q 11, .inl (g 0, (220 : Int32).toNatClampNeg, .inl u1_0)) : Option (Nat × va_E)) ∧ u[12]? = (some (q 12, .inr (2, [.ref (q 13), .int u2_0, .int u2_1])) : Option (Nat × va_E)) ∧ u[13]? = (some (q 13, .inl (g 0, (220 : Int32).toNatClampNeg, .inl u3_0)) : Option (Nat × va_E)) ∧ u[14]? = (some (q 14, .inr (2, [.ref (q 15), .int u4_0, .int u4_1])) : Option (Nat × va_E)) ∧ u[15]? = (some (q 15, .inl (g 0, (220 : Int32).toNatClampNeg, .inl u5_0)) : Option (Nat × va_E)) ∧ u[18]? = (some (q 18, .inr (2, [.ref (q 19), .int u6_0, .int u6_1])) : Option (Nat × va_E)) ∧ u[19]? = (some (q 19, .inl (g 0, (220 : Int32).toNatClampNeg, .inl u7_0)) : Option (Nat × va_E)) ∧ u[22]? = (some (q 22, .inr (2, [.ref (q 23), .int u8_0, .int u8_1])) : Option (Nat × va_E)) ∧ u[23]? = (some (q 23, .inl (g 0, (220 : Int32).toNatClampNeg, .inl u9_0)) : Option (Nat × va_E)) ∧ u[24]? = (some (q 24, .inr (2, [.ref (q 25), .int u10_0, .int u10_1])) : Option (Nat × va_E)) ∧ u[25]? = (some (q 25, .inl (g 0, (220 : Int32).toNatClampNeg, .inl u11_0)) : Option (Nat × va_E)) ∧ u[26]? = (some (q 26, .inr (2, [.ref (q 27), .int u12_0, .int u12_1])) : Option (Nat × va_E)) ∧ u[27]? = (some (q 27, .inl (g 0, (220 : Int32).toNatClampNeg, .inl u13_0)) : Option (Nat × va_E)) ∧ u[28]? = (some (q 28, .inr (2, [.ref (q 29), .int u14_0, .int u14_1])) : Option (Nat × va_E)) ∧ u[29]? = (some (q 29, .inl (g 0, (220 : Int32).toNatClampNeg, .inl u15_0)) : Option (Nat × va_E)) ∧ u[k4]? = (some (q k4, .inr (2, [.ref (q (k4 + 1)), .int u16_0, .int u16_1])) : Option (Nat × va_E)) ∧ u[k4 + 1]? = (some (q (k4 + 1), .inl (g 0, (68 : Int32).toNatClampNeg, .inl u17_0)) : Option (Nat × va_E)) ∧ (0 ≤ u0_0.toInt) ∧ (u0_0.toInt ≤ 220) ∧ (0 ≤ u0_1.toInt) ∧ (u0_1.toInt ≤ 1) ∧ (0 ≤ u2_0.toInt) ∧ (u2_0.toInt ≤ 220) ∧ (0 ≤ u2_1.toInt) ∧ (u2_1.toInt ≤ 0) ∧ (0 ≤ u4_0.toInt) ∧ (u4_0.toInt ≤ 220) ∧ (0 ≤ u4_1.toInt) ∧ (u4_1.toInt ≤ 1) ∧ (0 ≤ u6_0.toInt) ∧ (u6_0.toInt ≤ 220) ∧ (0 ≤ u6_1.toInt) ∧ (u6_1.toInt ≤ 1) ∧ (0 ≤ u8_0.toInt) ∧ (u8_0.toInt ≤ 220) ∧ (0 ≤ u8_1.toInt) ∧ (u8_1.toInt ≤ 1) ∧ (0 ≤ u10_0.toInt) ∧ (u10_0.toInt ≤ 220) ∧ (0 ≤ u10_1.toInt) ∧ (u10_1.toInt ≤ 1) ∧ (0 ≤ u12_0.toInt) ∧ (u12_0.toInt ≤ 220) ∧ (0 ≤ u12_1.toInt) ∧ (u12_1.toInt ≤ 1) ∧ (0 ≤ u14_0.toInt) ∧ (u14_0.toInt ≤ 220) ∧ (0 ≤ u14_1.toInt) ∧ (u14_1.toInt ≤ 1) ∧ (0 ≤ u16_0.toInt) ∧ (u16_0.toInt ≤ 68) ∧ (x2.toInt ≤ u2_1.toInt + 9) ∧ (u2_1.toInt ≤ x2.toInt) ∧ (x3.toInt ≤ u2_1.toInt + 9) ∧ (u2_1.toInt ≤ x3.toInt) ∧ (x4.toInt ≤ u2_1.toInt + 9) ∧ (u2_1.toInt ≤ x4.toInt) ∧ (x5.toInt ≤ u16_0.toInt + 9) ∧ (u16_0.toInt ≤ x5.toInt + 68) ∧ (x5.toInt ≤ u16_1.toInt + 9) ∧ (u16_1.toInt ≤ x5.toInt + 1) ∧ (u0_0.toInt ≤ u4_0.toInt) ∧ (u16_0.toInt ≤ u0_0.toInt) ∧ (u16_1.toInt ≤ u0_1.toInt) ∧ (u0_1.toInt ≤ u16_1.toInt) ∧ (u16_1.toInt ≤ u4_1.toInt) ∧ (u4_1.toInt ≤ u16_1.toInt) ∧ ((0 : Int32), u0_0, u0_1, u1_0, u2_0, u2_1, u3_0, u4_0, u4_1, u5_0, u6_0, u6_1, u7_0, u8_0, u8_1, u9_0, u10_0, u10_1, u11_0, u12_0, u12_1, u13_0, u14_0, u14_1, u15_0, u16_0, u16_1, u17_0) = (F_NH_powerModulo_aet x2 x3 x4 x5 t0_0 t0_1 t1_0 t2_0 t2_1 t3_0 t4_0 t4_1 t5_0 t6_0 t6_1 t7_0 t8_0 t8_1 t9_0 t10_0 t10_1 t11_0 t12_0 t12_1 t13_0 t14_0 t14_1 t15_0 t16_0 t16_1 t17_0)) (q_B D g (va_A ws sz)) (va_A ws sz)) (fun E u => ∃ c : Int32, E = qE c ∧ c ≠ 0 ∧ q_I (nsh g q) q u ∧ q_un ws u [10, 11, 12, 13, 14, 15, 18, 19, 22, 23, 24, 25, 26, 27, 28, 29, k4, k4 + 1] ∧ ∃ (u0_0 : Int32) (u0_1 : Int32) (u1_0 : (Nat → Int32)) (u2_0 : Int32) (u2_1 : Int32) (u3_0 : (Nat → Int32)) (u4_0 : Int32) (u4_1 : Int32) (u5_0 : (Nat → Int32)) (u6_0 : Int32) (u6_1 : Int32) (u7_0 : (Nat → Int32)) (u8_0 : Int32) (u8_1 : Int32) (u9_0 : (Nat → Int32)) (u10_0 : Int32) (u10_1 : Int32) (u11_0 : (Nat → Int32)) (u12_0 : Int32) (u12_1 : Int32) (u13_0 : (Nat → Int32)) (u14_0 : Int32) (u14_1 : Int32) (u15_0 : (Nat → Int32)) (u16_0 : Int32) (u16_1 : Int32) (u17_0 : (Nat → Int32)), u[10]? = (some (q 10, .inr (2, [.ref (q 11), .int u0_0, .int u0_1])) : Option (Nat × va_E)) ∧ u[11]? = (some (q 11, .inl (g 0, (220 : Int32).toNatClampNeg, .inl u1_0)) : Option (Nat × va_E)) ∧ u[12]? = (some (q 12, .inr (2, [.ref (q 13), .int u2_0, .int u2_1])) : Option (Nat × va_E)) ∧ u[13]? = (some (q 13, .inl (g 0, (220 : Int32).toNatClampNeg, .inl u3_0)) : Option (Nat × va_E)) ∧ u[14]? = (some (q 14, .inr (2, [.ref (q 15), .int u4_0, .int u4_1])) : Option (Nat × va_E)) ∧ u[15]? = (some (q 15, .inl (g 0, (220 : Int32).toNatClampNeg, .inl u5_0)) : Option (Nat × va_E)) ∧ u[18]? = (some (q 18, .inr (2, [.ref (q 19), .int u6_0, .int u6_1])) : Option (Nat × va_E)) ∧ u[19]? = (some (q 19, .inl (g 0, (220 : Int32).toNatClampNeg, .inl u7_0)) : Option (Nat × va_E)) ∧ u[22]? = (some (q 22, .inr (2, [.ref (q 23), .int u8_0, .int u8_1])) : Option (Nat × va_E)) ∧ u[23]? = (some (q 23, .inl (g 0, (220 : Int32).toNatClampNeg, .inl u9_0)) : Option (Nat × va_E)) ∧ u[24]? = (some (q 24, .inr (2, [.ref (q 25), .int u10_0, .int u10_1])) : Option (Nat × va_E)) ∧ u[25]? = (some (q 25, .inl (g 0, (220 : Int32).toNatClampNeg, .inl u11_0)) : Option (Nat × va_E)) ∧ u[26]? = (some (q 26, .inr (2, [.ref (q 27), .int u12_0, .int u12_1])) : Option (Nat × va_E)) ∧ u[27]? = (some (q 27, .inl (g 0, (220 : Int32).toNatClampNeg, .inl u13_0)) : Option (Nat × va_E)) ∧ u[28]? = (some (q 28, .inr (2, [.ref (q 29), .int u14_0, .int u14_1])) : Option (Nat × va_E)) ∧ u[29]? = (some (q 29, .inl (g 0, (220 : Int32).toNatClampNeg, .inl u15_0)) : Option (Nat × va_E)) ∧ u[k4]? = (some (q k4, .inr (2, [.ref (q (k4 + 1)), .int u16_0, .int u16_1])) : Option (Nat × va_E)) ∧ u[k4 + 1]? = (some (q (k4 + 1), .inl (g 0, (68 : Int32).toNatClampNeg, .inl u17_0)) : Option (Nat × va_E)) ∧ (c, u0_0, u0_1, u1_0, u2_0, u2_1, u3_0, u4_0, u4_1, u5_0, u6_0, u6_1, u7_0, u8_0, u8_1, u9_0, u10_0, u10_1, u11_0, u12_0, u12_1, u13_0, u14_0, u14_1, u15_0, u16_0, u16_1, u17_0) = (F_NH_powerModulo_aet x2 x3 x4 x5 t0_0 t0_1 t1_0 t2_0 t2_1 t3_0 t4_0 t4_1 t5_0 t6_0 t6_1 t7_0 t8_0 t8_1 t9_0 t10_0 t10_1 t11_0 t12_0 t12_1 t13_0 t14_0 t14_1 t15_0 t16_0 t16_1 t17_0)) := by
  intro sz
  refine q_intoX (by decide) (Nat.le_of_ble_eq_true rfl) ?_
  intro p e s m below meth c ls hsz C0 V hno hl
  have hx := C0.1
  have hb := C0.2.1
  have btt0_1 := (q_bigW hI (n_b10 g q) hT0).2
  clear btt0_1
  have btt2_1 := (q_bigW hI (n_b12 g q) hT2).2
  clear btt2_1
  have btt4_1 := (q_bigW hI (n_b14 g q) hT4).2
  clear btt4_1
  have btt6_1 := (q_bigW hI (n_b18 g q) hT6).2
  clear btt6_1
  obtain ⟨btt8_0, btt8_1⟩ := q_bigW hI (n_b22 g q) hT8
  replace btt8_0 : q_F (0 ≤ t8_0.toInt ∧ t8_0.toInt ≤ 220) := btt8_0
  replace btt8_1 : q_F (0 ≤ t8_1.toInt ∧ t8_1.toInt ≤ 1) := btt8_1
  obtain ⟨btt10_0, btt10_1⟩ := q_bigW hI (n_b24 g q) hT10
  replace btt10_0 : q_F (0 ≤ t10_0.toInt ∧ t10_0.toInt ≤ 220) := btt10_0
  replace btt10_1 : q_F (0 ≤ t10_1.toInt ∧ t10_1.toInt ≤ 1) := btt10_1
  obtain ⟨btt12_0, btt12_1⟩ := q_bigW hI (n_b26 g q) hT12
  replace btt12_0 : q_F (0 ≤ t12_0.toInt ∧ t12_0.toInt ≤ 220) := btt12_0
  replace btt12_1 : q_F (0 ≤ t12_1.toInt ∧ t12_1.toInt ≤ 1) := btt12_1
  obtain ⟨btt14_0, btt14_1⟩ := q_bigW hI (n_b28 g q) hT14
  replace btt14_0 : q_F (0 ≤ t14_0.toInt ∧ t14_0.toInt ≤ 220) := btt14_0
  replace btt14_1 : q_F (0 ≤ t14_1.toInt ∧ t14_1.toInt ≤ 1) := btt14_1
  have btt16_1 := (q_bigW hI hBk4 hT16).2
  replace btt16_1 : q_F (0 ≤ t16_1.toInt ∧ t16_1.toInt ≤ 1) := btt16_1
  have hF : q_un ws ws [10, 11, 12, 13, 14, 15, 18, 19, 22, 23, 24, 25, 26, 27, 28, 29, k4, k4 + 1] := q_u0
  have hl : lv_has ls 5 [(0, .ref (q 0)), (1, .int x2), (2, .int x3), (3, .int x4), (4, .int x5)] := hl
  refine lv_iload_n hx hb d_1_10_0 rfl (lv_at hl 1 rfl) ?_
  refine q_goi V (q_runS (As := [.int x2]) (rest := []) (d := 1) (mc := 0) (ms := 0) C0 V rfl LS_NH_212 (X_NH_isRegister l D g q ws  x2 hI   _) rfl hl.1 rfl (Nat.le_of_ble_eq_true rfl) ⟨by decide, by decide⟩ ⟨Nat.le_of_ble_eq_true rfl, Nat.le_of_ble_eq_true rfl⟩ d_1_10_1) (fun a75 u73 H locs hp74 V => ?_)
  obtain ⟨rfl, b76, b77, hE78⟩ := hp74
  have e79 : a75 = (F_NH_isRegister x2) := hE78
  clear b76
  clear b77
  refine q_join (X := Int32) (fun z H locs ls _ => q_F (0 ≤ z.toInt) ∧ q_F (z.toInt ≤ 1) ∧ q_Wd D g (va_A ws sz) s ws H locs ∧ lv_has ls 5 [(0, .ref (q 0)), (1, .int x2), (2, .int x3), (3, .int x4), (4, .int x5)] ∧ F_NH_powerModulo_aet_J34 x2 x3 x4 x5 t0_0 t0_1 t1_0 t2_0 t2_1 t3_0 t4_0 t4_1 t5_0 t6_0 t6_1 t7_0 t8_0 t8_1 t9_0 t10_0 t10_1 t11_0 t12_0 t12_1 t13_0 t14_0 t14_1 t15_0 t16_0 t16_1 t17_0 z = (F_NH_powerModulo_aet x2 x3 x4 x5 t0_0 t0_1 t1_0 t2_0 t2_1 t3_0 t4_0 t4_1 t5_0 t6_0 t6_1 t7_0 t8_0 t8_1 t9_0 t10_0 t10_1 t11_0 t12_0 t12_1 t13_0 t14_0 t14_1 t15_0 t16_0 t16_1 t17_0) ∧ True ∧ S_NH_powerModulo_aet_J34 x2 x3 x4 x5 t0_0 t0_1 t1_0 t2_0 t2_1 t3_0 t4_0 t4_1 t5_0 t6_0 t6_1 t7_0 t8_0 t8_1 t9_0 t10_0 t10_1 t11_0 t12_0 t12_1 t13_0 t14_0 t14_1 t15_0 t16_0 t16_1 t17_0 z) (fun z => [.int z]) 34 0 0 ?_ ?_
  ·
    rintro lx80 H locs ls _ hZ9
    obtain ⟨i100, hZ9⟩ := hZ9
    obtain ⟨i101, hZ9⟩ := hZ9
    obtain ⟨V, hZ9⟩ := hZ9
    obtain ⟨hl, hZ9⟩ := hZ9
    obtain ⟨hR102, hS103⟩ := hZ9
    replace i100 : q_F (0 ≤ lx80.toInt) := i100
    replace i101 : q_F (lx80.toInt ≤ 1) := i101
    replace hl : lv_has ls 5 [(0, .ref (q 0)), (1, .int x2), (2, .int x3), (3, .int x4), (4, .int x5)] := hl
    refine q_goxv V (q_runSX (As := [.int lx80]) (rest := []) (d := 7) (mc := 1) (ms := 6) C0 V rfl LS_NH_104 (X_NH_need l D g q ws  lx80 hlt hI  ⟨(by first | with_reducible exact q_fe i100 | (have t1 : 0 ≤ lx80.toInt := i100; omega)), (by first | with_reducible exact q_fe i101 | (have t1 : lx80.toInt ≤ 1 := i101; omega))⟩ _) rfl hl.1 rfl (Nat.le_of_ble_eq_true rfl) ⟨by decide, by decide⟩ ⟨Nat.le_of_ble_eq_true rfl, Nat.le_of_ble_eq_true rfl⟩ d_1_10_34) (fun qx Ex ce u107 H locs hp108 V hce hcv hcl => ?_) (fun u107 H locs hp108 V => ?_)
    ·
      obtain ⟨cx110, he111, hc112, rfl, hE109⟩ := hp108
      have c113 : ¬ (F_NH_need lx80) = (0 : Int32) := fun z => hc112 (((hE109) : cx110 = _).trans z)
      exact q_outT hno C0 V (⟨(F_NH_need lx80), (he111.trans (congrArg qE ((hE109) : cx110 = _))), c113, hI, hF, t0_0, t0_1, t1_0, t2_0, t2_1, t3_0, t4_0, t4_1, t5_0, t6_0, t6_1, t7_0, t8_0, t8_1, t9_0, t10_0, t10_1, t11_0, t12_0, t12_1, t13_0, t14_0, t14_1, t15_0, t16_0, t16_1, t17_0, hT0, hT1, hT2, hT3, hT4, hT5, hT6, hT7, hT8, hT9, hT10, hT11, hT12, hT13, hT14, hT15, hT16, hT17, (show ((F_NH_need lx80), t0_0, t0_1, t1_0, t2_0, t2_1, t3_0, t4_0, t4_1, t5_0, t6_0, t6_1, t7_0, t8_0, t8_1, t9_0, t10_0, t10_1, t11_0, t12_0, t12_1, t13_0, t14_0, t14_1, t15_0, t16_0, t16_1, t17_0) = (F_NH_powerModulo_aet x2 x3 x4 x5 t0_0 t0_1 t1_0 t2_0 t2_1 t3_0 t4_0 t4_1 t5_0 t6_0 t6_1 t7_0 t8_0 t8_1 t9_0 t10_0 t10_1 t11_0 t12_0 t12_1 t13_0 t14_0 t14_1 t15_0 t16_0 t16_1 t17_0) from Eq.trans (by rw [F_NH_powerModulo_aet_J34.eq_1, if_neg c113]) hR102)⟩) hce hcv hcl (Nat.le_of_ble_eq_true rfl) (Nat.le_of_ble_eq_true rfl)
    ·
      obtain ⟨rfl, hE114⟩ := hp108
      have c113 : (F_NH_need lx80) = (0 : Int32) := ((hE114) : (0 : Int32) = _).symm
      refine lv_aload_n hx hb d_1_10_37 rfl (lv_at hl 0 rfl) ?_
      have hO116 := n_o0 hI
      refine q_get (ci := 0) (j := 2) (v := .ref (q 5)) C0 V i_NH rfl rfl hO116 (by decide) w_426 rfl d_1_10_38 ?_
      refine lv_iload_n hx hb d_1_10_41 rfl (lv_at hl 3 rfl) ?_
      have hX117 := n_fx hI (n_s5 g q)
      have ob118 : q_F (0 ≤ x4.toInt) := (by have h := hS103; rw [S_NH_powerModulo_aet_J34.eq_1] at h; rw [if_pos c113] at h; exact h.2.1)
      have ob119 : q_F (x4.toInt ≤ 9) := (by have h := hS103; rw [S_NH_powerModulo_aet_J34.eq_1] at h; rw [if_pos c113] at h; replace h := q_s2 h; exact h.2.1)
      have hj120 : x4.toNatClampNeg < 10 := by have z := q_clI (i := x4) (x := x4.toInt) rfl (by first | with_reducible exact q_fe ob118 | (have t1 : 0 ≤ x4.toInt := ob118; omega)); have t1 : 0 ≤ x4.toInt := ob118; have t2 : x4.toInt ≤ 9 := ob119; omega
      have hq121 := gk4x4 hj120
      refine q_aald (t := 4) (q := q k4) C0 V hX117 rfl (q_ix (x := x4.toInt) rfl (by first | with_reducible exact q_fe ob118 | (have t1 : 0 ≤ x4.toInt := ob118; omega)) (by have t1 : 0 ≤ x4.toInt := ob118; have t2 : x4.toInt ≤ 9 := ob119; omega)) (by rw [hq121]; exact n_fwv hj120) d_1_10_42 ?_
      refine q_goi V (q_runV (As := []) (rest := []) (d := 1) (mc := 0) (ms := 0) (ci := 2) C0 V rfl LV_NH_225 (X_Big_sign l D g q ws k4 68 hBk4 (Or.inr yk4)  hI t16_0 t16_1 hT16  _) rfl rfl hT16 rfl hl.1 rfl (Nat.le_of_ble_eq_true rfl) ⟨by decide, by decide⟩ ⟨Nat.le_of_ble_eq_true rfl, Nat.le_of_ble_eq_true rfl⟩ d_1_10_43) (fun a124 u122 H locs hp123 V => ?_)
      obtain ⟨rfl, b125, b126, b127, hE128⟩ := hp123
      have e129 : a124 = (F_Big_sign (68 : Int32) t16_0 t16_1) := hE128
      clear b125
      clear b126
      clear b127
      refine q_join (X := Int32) (fun z H locs ls _ => q_F (0 ≤ z.toInt) ∧ q_F (z.toInt ≤ 1) ∧ q_Wd D g (va_A ws sz) s ws H locs ∧ lv_has ls 5 [(0, .ref (q 0)), (1, .int x2), (2, .int x3), (3, .int x4), (4, .int x5)] ∧ F_NH_powerModulo_aet_J54 x2 x3 x4 x5 t0_0 t0_1 t1_0 t2_0 t2_1 t3_0 t4_0 t4_1 t5_0 t6_0 t6_1 t7_0 t8_0 t8_1 t9_0 t10_0 t10_1 t11_0 t12_0 t12_1 t13_0 t14_0 t14_1 t15_0 t16_0 t16_1 t17_0 lx80 z = (F_NH_powerModulo_aet x2 x3 x4 x5 t0_0 t0_1 t1_0 t2_0 t2_1 t3_0 t4_0 t4_1 t5_0 t6_0 t6_1 t7_0 t8_0 t8_1 t9_0 t10_0 t10_1 t11_0 t12_0 t12_1 t13_0 t14_0 t14_1 t15_0 t16_0 t16_1 t17_0) ∧ True ∧ S_NH_powerModulo_aet_J54 x2 x3 x4 x5 t0_0 t0_1 t1_0 t2_0 t2_1 t3_0 t4_0 t4_1 t5_0 t6_0 t6_1 t7_0 t8_0 t8_1 t9_0 t10_0 t10_1 t11_0 t12_0 t12_1 t13_0 t14_0 t14_1 t15_0 t16_0 t16_1 t17_0 lx80 z) (fun z => [.int z]) 54 1 6 ?_ ?_
      ·
        rintro lx130 H locs ls _ hZ9
        obtain ⟨i150, hZ9⟩ := hZ9
        obtain ⟨i151, hZ9⟩ := hZ9
        obtain ⟨V, hZ9⟩ := hZ9
        obtain ⟨hl, hZ9⟩ := hZ9
        obtain ⟨hR152, hS153⟩ := hZ9
        replace i150 : q_F (0 ≤ lx130.toInt) := i150
        replace i151 : q_F (lx130.toInt ≤ 1) := i151
        replace hl : lv_has ls 5 [(0, .ref (q 0)), (1, .int x2), (2, .int x3), (3, .int x4), (4, .int x5)] := hl
        refine q_goxv V (q_runSX (As := [.int lx130]) (rest := []) (d := 7) (mc := 1) (ms := 6) C0 V rfl LS_NH_138 (X_NH_canHave l D g q ws  lx130 hlt hI  ⟨(by first | with_reducible exact q_fe i150 | (have t1 : 0 ≤ lx130.toInt := i150; omega)), (by first | with_reducible exact q_fe i151 | (have t1 : lx130.toInt ≤ 1 := i151; omega))⟩ _) rfl hl.1 rfl (Nat.le_of_ble_eq_true rfl) ⟨by decide, by decide⟩ ⟨Nat.le_of_ble_eq_true rfl, Nat.le_of_ble_eq_true rfl⟩ d_1_10_54) (fun qx Ex ce u157 H locs hp158 V hce hcv hcl => ?_) (fun u157 H locs hp158 V => ?_)
        ·
          obtain ⟨cx160, he161, hc162, rfl, hE159⟩ := hp158
          have c163 : ¬ (F_NH_canHave lx130) = (0 : Int32) := fun z => hc162 (((hE159) : cx160 = _).trans z)
          exact q_outT hno C0 V (⟨(F_NH_canHave lx130), (he161.trans (congrArg qE ((hE159) : cx160 = _))), c163, hI, hF, t0_0, t0_1, t1_0, t2_0, t2_1, t3_0, t4_0, t4_1, t5_0, t6_0, t6_1, t7_0, t8_0, t8_1, t9_0, t10_0, t10_1, t11_0, t12_0, t12_1, t13_0, t14_0, t14_1, t15_0, t16_0, t16_1, t17_0, hT0, hT1, hT2, hT3, hT4, hT5, hT6, hT7, hT8, hT9, hT10, hT11, hT12, hT13, hT14, hT15, hT16, hT17, (show ((F_NH_canHave lx130), t0_0, t0_1, t1_0, t2_0, t2_1, t3_0, t4_0, t4_1, t5_0, t6_0, t6_1, t7_0, t8_0, t8_1, t9_0, t10_0, t10_1, t11_0, t12_0, t12_1, t13_0, t14_0, t14_1, t15_0, t16_0, t16_1, t17_0) = (F_NH_powerModulo_aet x2 x3 x4 x5 t0_0 t0_1 t1_0 t2_0 t2_1 t3_0 t4_0 t4_1 t5_0 t6_0 t6_1 t7_0 t8_0 t8_1 t9_0 t10_0 t10_1 t11_0 t12_0 t12_1 t13_0 t14_0 t14_1 t15_0 t16_0 t16_1 t17_0) from Eq.trans (by rw [F_NH_powerModulo_aet_J54.eq_1, if_neg c163]) hR152)⟩) hce hcv hcl (Nat.le_of_ble_eq_true rfl) (Nat.le_of_ble_eq_true rfl)
        ·
          obtain ⟨rfl, hE164⟩ := hp158
          have c163 : (F_NH_canHave lx130) = (0 : Int32) := ((hE164) : (0 : Int32) = _).symm
          refine lv_aload_n hx hb d_1_10_57 rfl (lv_at hl 0 rfl) ?_
          refine q_get (ci := 0) (j := 2) (v := .ref (q 5)) C0 V i_NH rfl rfl hO116 (by decide) w_426 rfl d_1_10_58 ?_
          refine lv_iload_n hx hb d_1_10_61 rfl (lv_at hl 2 rfl) ?_
          have hX166 := n_fx hI (n_s5 g q)
          have ob167 : q_F (0 ≤ x3.toInt) := (by have h := hS153; rw [S_NH_powerModulo_aet_J54.eq_1] at h; rw [if_pos c163] at h; exact h.2.1)
          have ob168 : q_F (x3.toInt ≤ 9) := (by have h := hS153; rw [S_NH_powerModulo_aet_J54.eq_1] at h; rw [if_pos c163] at h; replace h := q_s2 h; exact h.2.1)
          have hj169 : x3.toNatClampNeg < 10 := by have z := q_clI (i := x3) (x := x3.toInt) rfl (by first | with_reducible exact q_fe ob167 | (have t1 : 0 ≤ x3.toInt := ob167; omega)); have t1 : 0 ≤ x3.toInt := ob167; have t2 : x3.toInt ≤ 9 := ob168; omega
          have hq170 := gk4x3 hj169
          refine q_aald (t := 4) (q := q k4) C0 V hX166 rfl (q_ix (x := x3.toInt) rfl (by first | with_reducible exact q_fe ob167 | (have t1 : 0 ≤ x3.toInt := ob167; omega)) (by have t1 : 0 ≤ x3.toInt := ob167; have t2 : x3.toInt ≤ 9 := ob168; omega)) (by rw [hq170]; exact n_fwv hj169) d_1_10_62 ?_
          refine q_get (ci := 2) (j := 2) (v := .int t16_1) C0 V i_Big rfl rfl hT16 (by decide) w_98 rfl d_1_10_63 ?_
          refine lv_if_eq (tgt := 94) hx hb d_1_10_66 (by decide) (fun c171 => ?_) (fun c171 => ?_)
          ·
            refine lv_aload_n hx hb d_1_10_94 rfl (lv_at hl 0 rfl) ?_
            refine q_get (ci := 0) (j := 6) (v := .ref (q 9)) C0 V i_NH rfl rfl hO116 (by decide) w_430 rfl d_1_10_95 ?_
            refine lv_aload_n hx hb d_1_10_98 rfl (lv_at hl 0 rfl) ?_
            refine q_get (ci := 0) (j := 2) (v := .ref (q 5)) C0 V i_NH rfl rfl hO116 (by decide) w_426 rfl d_1_10_99 ?_
            refine lv_iload_n hx hb d_1_10_102 rfl (lv_at hl 1 rfl) ?_
            have hX173 := n_fx hI (n_s5 g q)
            have ob174 : q_F (0 ≤ x2.toInt) := (by have h := hS153; rw [S_NH_powerModulo_aet_J54.eq_1] at h; rw [if_pos c163] at h; replace h := q_s2 h; replace h := q_s2 h; rw [if_pos c171] at h; exact h.2.1)
            have ob175 : q_F (x2.toInt ≤ 9) := (by have h := hS153; rw [S_NH_powerModulo_aet_J54.eq_1] at h; rw [if_pos c163] at h; replace h := q_s2 h; replace h := q_s2 h; rw [if_pos c171] at h; replace h := q_s2 h; exact h.2.1)
            have hj176 : x2.toNatClampNeg < 10 := by have z := q_clI (i := x2) (x := x2.toInt) rfl (by first | with_reducible exact q_fe ob174 | (have t1 : 0 ≤ x2.toInt := ob174; omega)); have t1 : 0 ≤ x2.toInt := ob174; have t2 : x2.toInt ≤ 9 := ob175; omega
            have hq177 := gk4x2 hj176
            refine q_aald (t := 4) (q := q k4) C0 V hX173 rfl (q_ix (x := x2.toInt) rfl (by first | with_reducible exact q_fe ob174 | (have t1 : 0 ≤ x2.toInt := ob174; omega)) (by have t1 : 0 ≤ x2.toInt := ob174; have t2 : x2.toInt ≤ 9 := ob175; omega)) (by rw [hq177]; exact n_fwv hj176) d_1_10_103 ?_
            refine lv_aload_n hx hb d_1_10_104 rfl (lv_at hl 0 rfl) ?_
            refine q_get (ci := 0) (j := 2) (v := .ref (q 5)) C0 V i_NH rfl rfl hO116 (by decide) w_426 rfl d_1_10_105 ?_
            refine lv_iload_n hx hb d_1_10_108 rfl (lv_at hl 3 rfl) ?_
            have hX178 := n_fx hI (n_s5 g q)
            have hj179 : x4.toNatClampNeg < 10 := by have z := q_clI (i := x4) (x := x4.toInt) rfl (by first | with_reducible exact q_fe ob118 | (have t1 : 0 ≤ x4.toInt := ob118; omega)); have t1 : 0 ≤ x4.toInt := ob118; have t2 : x4.toInt ≤ 9 := ob119; omega
            have hq180 := gk4x4 hj179
            refine q_aald (t := 4) (q := q k4) C0 V hX178 rfl (q_ix (x := x4.toInt) rfl (by first | with_reducible exact q_fe ob118 | (have t1 : 0 ≤ x4.toInt := ob118; omega)) (by have t1 : 0 ≤ x4.toInt := ob118; have t2 : x4.toInt ≤ 9 := ob119; omega)) (by rw [hq180]; exact n_fwv hj179) d_1_10_109 ?_
            refine lv_aload_n hx hb d_1_10_110 rfl (lv_at hl 0 rfl) ?_
            refine q_get (ci := 0) (j := 6) (v := .ref (q 9)) C0 V i_NH rfl rfl hO116 (by decide) w_430 rfl d_1_10_111 ?_
            have hO181 := n_o9 hI
            refine q_get (ci := 4) (j := 0) (v := .ref (q 10)) C0 V i_Mil rfl rfl hO181 (by decide) w_112 rfl d_1_10_114 ?_
            have ob182 : True ∧ S_Mil_modulo_a (68 : Int32) (220 : Int32) t2_0 t2_1 t3_0 t16_0 t16_1 t17_0 t0_0 t0_1 t1_0 := (by have h := hS153; rw [S_NH_powerModulo_aet_J54.eq_1] at h; rw [if_pos c163] at h; replace h := q_s2 h; replace h := q_s2 h; rw [if_pos c171] at h; replace h := q_s2 h; replace h := q_s2 h; with_reducible exact h.2.1)
            refine q_gov V (q_runV (As := [.ref (q k4), .ref (q k4), .ref (q 10)]) (rest := []) (d := 5) (mc := 0) (ms := 0) (ci := 4) C0 V rfl LV_NH_228 (X_Mil_modulo_a l D g q ws k4 68 hBk4 (Or.inr yk4) 10 220 (n_b10 g q) (by decide)  (by have z0 := yk4; omega) (by have z0 := yk4; omega) (by have z0 := yk4; omega) (by decide) (by decide) (by decide) (by have z0 := yk4; omega) hI t2_0 t2_1 hT2 t3_0 hT3 t16_0 t16_1 hT16 t17_0 hT17 t0_0 t0_1 hT0 t1_0 hT1 ob182 _) rfl rfl hO181 rfl hl.1 rfl (Nat.le_of_ble_eq_true rfl) ⟨by decide, by decide⟩ ⟨Nat.le_of_ble_eq_true rfl, Nat.le_of_ble_eq_true rfl⟩ d_1_10_117) (fun u183 H locs hp184 V => ?_)
            obtain ⟨hI, hZ9⟩ := hp184
            obtain ⟨hu216, hZ9⟩ := hZ9
            obtain ⟨y186, hZ9⟩ := hZ9
            obtain ⟨y187, hZ9⟩ := hZ9
            obtain ⟨f188, hZ9⟩ := hZ9
            obtain ⟨y191, hZ9⟩ := hZ9
            obtain ⟨y192, hZ9⟩ := hZ9
            obtain ⟨f193, hZ9⟩ := hZ9
            obtain ⟨y196, hZ9⟩ := hZ9
            obtain ⟨y197, hZ9⟩ := hZ9
            obtain ⟨f198, hZ9⟩ := hZ9
            obtain ⟨hO185, hZ9⟩ := hZ9
            obtain ⟨hA189, hZ9⟩ := hZ9
            obtain ⟨hO190, hZ9⟩ := hZ9
            obtain ⟨hA194, hZ9⟩ := hZ9
            obtain ⟨hO195, hZ9⟩ := hZ9
            obtain ⟨hA199, hZ9⟩ := hZ9
            replace hZ9 := hZ9.2.2.2.2.2.2.2.2.2.2.2.2.2.2
            obtain ⟨-, hE215⟩ := hZ9
            replace hO185 : u183[12]? = (some (q 12, .inr (2, [.ref (q 13), .int y186, .int y187])) : Option (Nat × va_E)) := hO185
            replace hA189 : u183[13]? = (some (q 13, .inl (g 0, (220 : Int32).toNatClampNeg, .inl f188)) : Option (Nat × va_E)) := hA189
            replace hO190 : u183[k4]? = (some (q k4, .inr (2, [.ref (q (k4 + 1)), .int y191, .int y192])) : Option (Nat × va_E)) := hO190
            replace hA194 : u183[k4 + 1]? = (some (q (k4 + 1), .inl (g 0, (68 : Int32).toNatClampNeg, .inl f193)) : Option (Nat × va_E)) := hA194
            replace hO195 : u183[10]? = (some (q 10, .inr (2, [.ref (q 11), .int y196, .int y197])) : Option (Nat × va_E)) := hO195
            replace hA199 : u183[11]? = (some (q 11, .inl (g 0, (220 : Int32).toNatClampNeg, .inl f198)) : Option (Nat × va_E)) := hA199
            obtain ⟨p217, e218⟩ : ∃ z, z = (F_Mil_modulo_a (68 : Int32) (220 : Int32) t2_0 t2_1 t3_0 t16_0 t16_1 t17_0 t0_0 t0_1 t1_0) := ⟨_, rfl⟩
            have e219 : y186 = p217.1 := congrArg (fun z => z.1) (hE215.trans e218.symm)
            have e220 : y187 = p217.2.1 := congrArg (fun z => z.2.1) (hE215.trans e218.symm)
            have e221 : f188 = p217.2.2.1 := congrArg (fun z => z.2.2.1) (hE215.trans e218.symm)
            have e222 : y191 = p217.2.2.2.1 := congrArg (fun z => z.2.2.2.1) (hE215.trans e218.symm)
            have e223 : y192 = p217.2.2.2.2.1 := congrArg (fun z => z.2.2.2.2.1) (hE215.trans e218.symm)
            have e224 : f193 = p217.2.2.2.2.2.1 := congrArg (fun z => z.2.2.2.2.2.1) (hE215.trans e218.symm)
            have e225 : y196 = p217.2.2.2.2.2.2.1 := congrArg (fun z => z.2.2.2.2.2.2.1) (hE215.trans e218.symm)
            have e226 : y197 = p217.2.2.2.2.2.2.2.1 := congrArg (fun z => z.2.2.2.2.2.2.2.1) (hE215.trans e218.symm)
            have e227 : f198 = p217.2.2.2.2.2.2.2.2 := congrArg (fun z => z.2.2.2.2.2.2.2.2) (hE215.trans e218.symm)
            replace hT4 := (hu216 _ (by have z0 := yk4; simp only [List.mem_cons, List.not_mem_nil, or_false, not_or]; omega)).trans hT4
            replace hT5 := (hu216 _ (by have z0 := yk4; simp only [List.mem_cons, List.not_mem_nil, or_false, not_or]; omega)).trans hT5
            replace hT6 := (hu216 _ (by have z0 := yk4; simp only [List.mem_cons, List.not_mem_nil, or_false, not_or]; omega)).trans hT6
            replace hT7 := (hu216 _ (by have z0 := yk4; simp only [List.mem_cons, List.not_mem_nil, or_false, not_or]; omega)).trans hT7
            replace hT8 := (hu216 _ (by have z0 := yk4; simp only [List.mem_cons, List.not_mem_nil, or_false, not_or]; omega)).trans hT8
            replace hT9 := (hu216 _ (by have z0 := yk4; simp only [List.mem_cons, List.not_mem_nil, or_false, not_or]; omega)).trans hT9
            replace hT10 := (hu216 _ (by have z0 := yk4; simp only [List.mem_cons, List.not_mem_nil, or_false, not_or]; omega)).trans hT10
            replace hT11 := (hu216 _ (by have z0 := yk4; simp only [List.mem_cons, List.not_mem_nil, or_false, not_or]; omega)).trans hT11
            replace hT12 := (hu216 _ (by have z0 := yk4; simp only [List.mem_cons, List.not_mem_nil, or_false, not_or]; omega)).trans hT12
            replace hT13 := (hu216 _ (by have z0 := yk4; simp only [List.mem_cons, List.not_mem_nil, or_false, not_or]; omega)).trans hT13
            replace hT14 := (hu216 _ (by have z0 := yk4; simp only [List.mem_cons, List.not_mem_nil, or_false, not_or]; omega)).trans hT14
            replace hT15 := (hu216 _ (by have z0 := yk4; simp only [List.mem_cons, List.not_mem_nil, or_false, not_or]; omega)).trans hT15
            replace hO116 := (hu216 _ (by have z0 := yk4; simp only [List.mem_cons, List.not_mem_nil, or_false, not_or]; omega)).trans hO116
            replace hO181 := (hu216 _ (by have z0 := yk4; simp only [List.mem_cons, List.not_mem_nil, or_false, not_or]; omega)).trans hO181
            replace hF := q_uc hF hu216 (by simp)
            have hR228 := (show F_NH_powerModulo_aet_c117 x2 x3 x4 x5 t0_0 t0_1 t1_0 t2_0 t2_1 t3_0 t4_0 t4_1 t5_0 t6_0 t6_1 t7_0 t8_0 t8_1 t9_0 t10_0 t10_1 t11_0 t12_0 t12_1 t13_0 t14_0 t14_1 t15_0 t16_0 t16_1 t17_0 lx80 lx130 p217 = (F_NH_powerModulo_aet x2 x3 x4 x5 t0_0 t0_1 t1_0 t2_0 t2_1 t3_0 t4_0 t4_1 t5_0 t6_0 t6_1 t7_0 t8_0 t8_1 t9_0 t10_0 t10_1 t11_0 t12_0 t12_1 t13_0 t14_0 t14_1 t15_0 t16_0 t16_1 t17_0) from Eq.trans (by rw [e218, F_NH_powerModulo_aet_J54.eq_1, if_pos c163, if_pos c171]) hR152)
            have hS229 := (show True ∧ S_NH_powerModulo_aet_c117 x2 x3 x4 x5 t0_0 t0_1 t1_0 t2_0 t2_1 t3_0 t4_0 t4_1 t5_0 t6_0 t6_1 t7_0 t8_0 t8_1 t9_0 t10_0 t10_1 t11_0 t12_0 t12_1 t13_0 t14_0 t14_1 t15_0 t16_0 t16_1 t17_0 lx80 lx130 p217 from (by rw [e218]; have h := hS153; rw [S_NH_powerModulo_aet_J54.eq_1] at h; rw [if_pos c163] at h; replace h := q_s2 h; replace h := q_s2 h; rw [if_pos c171] at h; replace h := q_s2 h; replace h := q_s2 h; replace h := q_s2 h; with_reducible exact h))
            refine lv_aload_n hx hb d_1_10_120 rfl (lv_at hl 0 rfl) ?_
            refine q_get (ci := 0) (j := 6) (v := .ref (q 9)) C0 V i_NH rfl rfl hO116 (by decide) w_430 rfl d_1_10_121 ?_
            refine lv_aload_n hx hb d_1_10_124 rfl (lv_at hl 0 rfl) ?_
            refine q_get (ci := 0) (j := 2) (v := .ref (q 5)) C0 V i_NH rfl rfl hO116 (by decide) w_426 rfl d_1_10_125 ?_
            refine lv_iload_n hx hb d_1_10_128 rfl (lv_at hl 2 rfl) ?_
            have hX233 := n_fx hI (n_s5 g q)
            have hj234 : x3.toNatClampNeg < 10 := by have z := q_clI (i := x3) (x := x3.toInt) rfl (by first | with_reducible exact q_fe ob167 | (have t1 : 0 ≤ x3.toInt := ob167; omega)); have t1 : 0 ≤ x3.toInt := ob167; have t2 : x3.toInt ≤ 9 := ob168; omega
            have hq235 := gk4x3 hj234
            refine q_aald (t := 4) (q := q k4) C0 V hX233 rfl (q_ix (x := x3.toInt) rfl (by first | with_reducible exact q_fe ob167 | (have t1 : 0 ≤ x3.toInt := ob167; omega)) (by have t1 : 0 ≤ x3.toInt := ob167; have t2 : x3.toInt ≤ 9 := ob168; omega)) (by rw [hq235]; exact n_fwv hj234) d_1_10_129 ?_
            refine lv_aload_n hx hb d_1_10_130 rfl (lv_at hl 0 rfl) ?_
            refine q_get (ci := 0) (j := 2) (v := .ref (q 5)) C0 V i_NH rfl rfl hO116 (by decide) w_426 rfl d_1_10_131 ?_
            refine lv_iload_n hx hb d_1_10_134 rfl (lv_at hl 3 rfl) ?_
            have hX236 := n_fx hI (n_s5 g q)
            have hj237 : x4.toNatClampNeg < 10 := by have z := q_clI (i := x4) (x := x4.toInt) rfl (by first | with_reducible exact q_fe ob118 | (have t1 : 0 ≤ x4.toInt := ob118; omega)); have t1 : 0 ≤ x4.toInt := ob118; have t2 : x4.toInt ≤ 9 := ob119; omega
            have hq238 := gk4x4 hj237
            refine q_aald (t := 4) (q := q k4) C0 V hX236 rfl (q_ix (x := x4.toInt) rfl (by first | with_reducible exact q_fe ob118 | (have t1 : 0 ≤ x4.toInt := ob118; omega)) (by have t1 : 0 ≤ x4.toInt := ob118; have t2 : x4.toInt ≤ 9 := ob119; omega)) (by rw [hq238]; exact n_fwv hj237) d_1_10_135 ?_
            have ob239 : True ∧ S_Mil_powerBelow_a (68 : Int32) y196 y197 f198 y186 y187 f188 t4_0 t4_1 t5_0 t6_0 t6_1 t7_0 y191 y192 f193 := (by rw [e227, e226, e225, e224, e223, e222, e221, e220, e219]; have h := hS229; rw [S_NH_powerModulo_aet_c117.eq_1] at h; with_reducible exact h.2.1)
            refine q_gov V (q_runV (As := [.ref (q k4), .ref (q k4)]) (rest := []) (d := 5) (mc := 0) (ms := 0) (ci := 4) C0 V rfl LV_NH_266 (X_Mil_powerBelow_a l D g q u183 k4 68 hBk4 (Or.inr yk4)  (by have z0 := yk4; omega) (by have z0 := yk4; omega) (by have z0 := yk4; omega) (by have z0 := yk4; omega) (by have z0 := yk4; omega) (by have z0 := yk4; omega) (by have z0 := yk4; omega) (by have z0 := yk4; omega) (by have z0 := yk4; omega) (by have z0 := yk4; omega) (by have z0 := yk4; omega) (by have z0 := yk4; omega) hI y196 y197 hO195 f198 hA199 y186 y187 hO185 f188 hA189 t4_0 t4_1 hT4 t5_0 hT5 t6_0 t6_1 hT6 t7_0 hT7 y191 y192 hO190 f193 hA194 ob239 _) rfl rfl hO181 rfl hl.1 rfl (Nat.le_of_ble_eq_true rfl) ⟨by decide, by decide⟩ ⟨Nat.le_of_ble_eq_true rfl, Nat.le_of_ble_eq_true rfl⟩ d_1_10_136) (fun u240 H locs hp241 V => ?_)
            obtain ⟨hI, hZ9⟩ := hp241
            obtain ⟨hu287, hZ9⟩ := hZ9
            obtain ⟨y243, hZ9⟩ := hZ9
            obtain ⟨y244, hZ9⟩ := hZ9
            obtain ⟨f245, hZ9⟩ := hZ9
            obtain ⟨y248, hZ9⟩ := hZ9
            obtain ⟨y249, hZ9⟩ := hZ9
            obtain ⟨f250, hZ9⟩ := hZ9
            obtain ⟨y253, hZ9⟩ := hZ9
            obtain ⟨y254, hZ9⟩ := hZ9
            obtain ⟨f255, hZ9⟩ := hZ9
            obtain ⟨y258, hZ9⟩ := hZ9
            obtain ⟨y259, hZ9⟩ := hZ9
            obtain ⟨f260, hZ9⟩ := hZ9
            obtain ⟨y263, hZ9⟩ := hZ9
            obtain ⟨y264, hZ9⟩ := hZ9
            obtain ⟨f265, hZ9⟩ := hZ9
            obtain ⟨hO242, hZ9⟩ := hZ9
            obtain ⟨hA246, hZ9⟩ := hZ9
            obtain ⟨hO247, hZ9⟩ := hZ9
            obtain ⟨hA251, hZ9⟩ := hZ9
            obtain ⟨hO252, hZ9⟩ := hZ9
            obtain ⟨hA256, hZ9⟩ := hZ9
            obtain ⟨hO257, hZ9⟩ := hZ9
            obtain ⟨hA261, hZ9⟩ := hZ9
            obtain ⟨hO262, hZ9⟩ := hZ9
            obtain ⟨hA266, hZ9⟩ := hZ9
            obtain ⟨b267, hZ9⟩ := hZ9
            obtain ⟨b268, hZ9⟩ := hZ9
            replace hZ9 := hZ9.2
            obtain ⟨b270, hZ9⟩ := hZ9
            obtain ⟨b271, hZ9⟩ := hZ9
            obtain ⟨b272, hZ9⟩ := hZ9
            obtain ⟨b273, hZ9⟩ := hZ9
            obtain ⟨b274, hZ9⟩ := hZ9
            obtain ⟨b275, hZ9⟩ := hZ9
            obtain ⟨b276, hZ9⟩ := hZ9
            obtain ⟨b277, hZ9⟩ := hZ9
            obtain ⟨b278, hZ9⟩ := hZ9
            obtain ⟨b279, hZ9⟩ := hZ9
            obtain ⟨b280, hZ9⟩ := hZ9
            obtain ⟨b281, hZ9⟩ := hZ9
            obtain ⟨b282, hZ9⟩ := hZ9
            replace hZ9 := hZ9.2.2
            obtain ⟨-, hE286⟩ := hZ9
            replace hO242 : u240[10]? = (some (q 10, .inr (2, [.ref (q 11), .int y243, .int y244])) : Option (Nat × va_E)) := hO242
            replace hA246 : u240[11]? = (some (q 11, .inl (g 0, (220 : Int32).toNatClampNeg, .inl f245)) : Option (Nat × va_E)) := hA246
            replace hO247 : u240[12]? = (some (q 12, .inr (2, [.ref (q 13), .int y248, .int y249])) : Option (Nat × va_E)) := hO247
            replace hA251 : u240[13]? = (some (q 13, .inl (g 0, (220 : Int32).toNatClampNeg, .inl f250)) : Option (Nat × va_E)) := hA251
            replace hO252 : u240[14]? = (some (q 14, .inr (2, [.ref (q 15), .int y253, .int y254])) : Option (Nat × va_E)) := hO252
            replace hA256 : u240[15]? = (some (q 15, .inl (g 0, (220 : Int32).toNatClampNeg, .inl f255)) : Option (Nat × va_E)) := hA256
            replace hO257 : u240[18]? = (some (q 18, .inr (2, [.ref (q 19), .int y258, .int y259])) : Option (Nat × va_E)) := hO257
            replace hA261 : u240[19]? = (some (q 19, .inl (g 0, (220 : Int32).toNatClampNeg, .inl f260)) : Option (Nat × va_E)) := hA261
            replace hO262 : u240[k4]? = (some (q k4, .inr (2, [.ref (q (k4 + 1)), .int y263, .int y264])) : Option (Nat × va_E)) := hO262
            replace hA266 : u240[k4 + 1]? = (some (q (k4 + 1), .inl (g 0, (68 : Int32).toNatClampNeg, .inl f265)) : Option (Nat × va_E)) := hA266
            obtain ⟨p288, e289⟩ : ∃ z, z = (F_Mil_powerBelow_a (68 : Int32) y196 y197 f198 y186 y187 f188 t4_0 t4_1 t5_0 t6_0 t6_1 t7_0 y191 y192 f193) := ⟨_, rfl⟩
            have e290 : y243 = p288.1 := congrArg (fun z => z.1) (hE286.trans e289.symm)
            have e291 : y244 = p288.2.1 := congrArg (fun z => z.2.1) (hE286.trans e289.symm)
            have e292 : f245 = p288.2.2.1 := congrArg (fun z => z.2.2.1) (hE286.trans e289.symm)
            have e293 : y248 = p288.2.2.2.1 := congrArg (fun z => z.2.2.2.1) (hE286.trans e289.symm)
            have e294 : y249 = p288.2.2.2.2.1 := congrArg (fun z => z.2.2.2.2.1) (hE286.trans e289.symm)
            have e295 : f250 = p288.2.2.2.2.2.1 := congrArg (fun z => z.2.2.2.2.2.1) (hE286.trans e289.symm)
            have e296 : y253 = p288.2.2.2.2.2.2.1 := congrArg (fun z => z.2.2.2.2.2.2.1) (hE286.trans e289.symm)
            have e297 : y254 = p288.2.2.2.2.2.2.2.1 := congrArg (fun z => z.2.2.2.2.2.2.2.1) (hE286.trans e289.symm)
            have e298 : f255 = p288.2.2.2.2.2.2.2.2.1 := congrArg (fun z => z.2.2.2.2.2.2.2.2.1) (hE286.trans e289.symm)
            have e299 : y258 = p288.2.2.2.2.2.2.2.2.2.1 := congrArg (fun z => z.2.2.2.2.2.2.2.2.2.1) (hE286.trans e289.symm)
            have e300 : y259 = p288.2.2.2.2.2.2.2.2.2.2.1 := congrArg (fun z => z.2.2.2.2.2.2.2.2.2.2.1) (hE286.trans e289.symm)
            have e301 : f260 = p288.2.2.2.2.2.2.2.2.2.2.2.1 := congrArg (fun z => z.2.2.2.2.2.2.2.2.2.2.2.1) (hE286.trans e289.symm)
            have e302 : y263 = p288.2.2.2.2.2.2.2.2.2.2.2.2.1 := congrArg (fun z => z.2.2.2.2.2.2.2.2.2.2.2.2.1) (hE286.trans e289.symm)
            have e303 : y264 = p288.2.2.2.2.2.2.2.2.2.2.2.2.2.1 := congrArg (fun z => z.2.2.2.2.2.2.2.2.2.2.2.2.2.1) (hE286.trans e289.symm)
            have e304 : f265 = p288.2.2.2.2.2.2.2.2.2.2.2.2.2.2 := congrArg (fun z => z.2.2.2.2.2.2.2.2.2.2.2.2.2.2) (hE286.trans e289.symm)
            replace b267 : q_F (0 ≤ y249.toInt) := b267
            replace b268 : q_F (y249.toInt ≤ 0) := b268
            replace b270 : q_F (y249.toInt ≤ y243.toInt) := b270
            replace b271 : q_F (y243.toInt ≤ y253.toInt) := b271
            replace b272 : q_F (y254.toInt ≤ y244.toInt) := b272
            replace b273 : q_F (y244.toInt ≤ y254.toInt) := b273
            replace b274 : q_F (y249.toInt ≤ y248.toInt) := b274
            replace b275 : q_F (y248.toInt ≤ y249.toInt + 220) := b275
            replace b276 : q_F (y253.toInt ≤ y249.toInt + 220) := b276
            replace b277 : q_F (y254.toInt ≤ y249.toInt + 1) := b277
            replace b278 : q_F (y249.toInt ≤ y254.toInt) := b278
            replace b279 : q_F (y258.toInt ≤ y249.toInt + 220) := b279
            replace b280 : q_F (y249.toInt ≤ y258.toInt) := b280
            replace b281 : q_F (y259.toInt ≤ y249.toInt + 1) := b281
            replace b282 : q_F (y249.toInt ≤ y259.toInt) := b282
            replace hT8 := (hu287 _ (by have z0 := yk4; simp only [List.mem_cons, List.not_mem_nil, or_false, not_or]; omega)).trans hT8
            replace hT9 := (hu287 _ (by have z0 := yk4; simp only [List.mem_cons, List.not_mem_nil, or_false, not_or]; omega)).trans hT9
            replace hT10 := (hu287 _ (by have z0 := yk4; simp only [List.mem_cons, List.not_mem_nil, or_false, not_or]; omega)).trans hT10
            replace hT11 := (hu287 _ (by have z0 := yk4; simp only [List.mem_cons, List.not_mem_nil, or_false, not_or]; omega)).trans hT11
            replace hT12 := (hu287 _ (by have z0 := yk4; simp only [List.mem_cons, List.not_mem_nil, or_false, not_or]; omega)).trans hT12
            replace hT13 := (hu287 _ (by have z0 := yk4; simp only [List.mem_cons, List.not_mem_nil, or_false, not_or]; omega)).trans hT13
            replace hT14 := (hu287 _ (by have z0 := yk4; simp only [List.mem_cons, List.not_mem_nil, or_false, not_or]; omega)).trans hT14
            replace hT15 := (hu287 _ (by have z0 := yk4; simp only [List.mem_cons, List.not_mem_nil, or_false, not_or]; omega)).trans hT15
            replace hO116 := (hu287 _ (by have z0 := yk4; simp only [List.mem_cons, List.not_mem_nil, or_false, not_or]; omega)).trans hO116
            replace hF := q_uc hF hu287 (by simp)
            have hR305 := (show F_NH_powerModulo_aet_c136 x2 x3 x4 x5 t0_0 t0_1 t1_0 t2_0 t2_1 t3_0 t4_0 t4_1 t5_0 t6_0 t6_1 t7_0 t8_0 t8_1 t9_0 t10_0 t10_1 t11_0 t12_0 t12_1 t13_0 t14_0 t14_1 t15_0 t16_0 t16_1 t17_0 lx80 lx130 p217 p288 = (F_NH_powerModulo_aet x2 x3 x4 x5 t0_0 t0_1 t1_0 t2_0 t2_1 t3_0 t4_0 t4_1 t5_0 t6_0 t6_1 t7_0 t8_0 t8_1 t9_0 t10_0 t10_1 t11_0 t12_0 t12_1 t13_0 t14_0 t14_1 t15_0 t16_0 t16_1 t17_0) from Eq.trans (by rw [e289, e227, e226, e225, e224, e223, e222, e221, e220, e219, F_NH_powerModulo_aet_c117.eq_1]) hR228)
            have hS306 := (show True ∧ S_NH_powerModulo_aet_c136 x2 x3 x4 x5 t0_0 t0_1 t1_0 t2_0 t2_1 t3_0 t4_0 t4_1 t5_0 t6_0 t6_1 t7_0 t8_0 t8_1 t9_0 t10_0 t10_1 t11_0 t12_0 t12_1 t13_0 t14_0 t14_1 t15_0 t16_0 t16_1 t17_0 lx80 lx130 p217 p288 from (by rw [e289, e227, e226, e225, e224, e223, e222, e221, e220, e219]; have h := hS229; rw [S_NH_powerModulo_aet_c117.eq_1] at h; replace h := q_s2 h; with_reducible exact h))
            refine lv_aload_n hx hb d_1_10_139 rfl (lv_at hl 0 rfl) ?_
            refine lv_iload hx hb d_1_10_140 (lv_at hl 4 rfl) ?_
            have ob310 : True ∧ S_NH_keepWhole x5 y243 y244 f245 y263 y264 f265 := (by rw [e304, e303, e302, e292, e291, e290]; have h := hS306; rw [S_NH_powerModulo_aet_c136.eq_1] at h; with_reducible exact h.2.1)
            refine q_goxv V (q_runVX (As := [.int x5]) (rest := []) (d := 8) (mc := 1) (ms := 6) (ci := 0) C0 V rfl LV_NH_243 (X_NH_keepWhole l D g q u240  x5 k4 hBk4 yk4 gk4x5 hlt hI y243 y244 hO242 f245 hA246 y263 y264 hO262 f265 hA266 ob310 _) rfl rfl hO116 rfl hl.1 rfl (Nat.le_of_ble_eq_true rfl) ⟨by decide, by decide⟩ ⟨Nat.le_of_ble_eq_true rfl, Nat.le_of_ble_eq_true rfl⟩ d_1_10_142) (fun qx Ex ce u311 H locs hp312 V hce hcv hcl => ?_) (fun u311 H locs hp312 V => ?_)
            ·
              obtain ⟨cx319, hZ9⟩ := hp312
              obtain ⟨he320, hZ9⟩ := hZ9
              obtain ⟨hc321, hZ9⟩ := hZ9
              obtain ⟨hI, hZ9⟩ := hZ9
              obtain ⟨hu322, hZ9⟩ := hZ9
              obtain ⟨y314, hZ9⟩ := hZ9
              obtain ⟨y315, hZ9⟩ := hZ9
              obtain ⟨f316, hZ9⟩ := hZ9
              obtain ⟨hO313, hZ9⟩ := hZ9
              obtain ⟨hA317, hE318⟩ := hZ9
              replace hO313 : u311[k4]? = (some (q k4, .inr (2, [.ref (q (k4 + 1)), .int y314, .int y315])) : Option (Nat × va_E)) := hO313
              replace hA317 : u311[k4 + 1]? = (some (q (k4 + 1), .inl (g 0, (68 : Int32).toNatClampNeg, .inl f316)) : Option (Nat × va_E)) := hA317
              obtain ⟨p323, e324⟩ : ∃ z, z = (F_NH_keepWhole x5 y243 y244 f245 y263 y264 f265) := ⟨_, rfl⟩
              have c325 : ¬ p323.1 = (0 : Int32) := fun z => hc321 (((congrArg (fun z => z.1) (hE318.trans e324.symm)) : cx319 = _).trans z)
              have e326 : y314 = p323.2.1 := congrArg (fun z => z.2.1) (hE318.trans e324.symm)
              have e327 : y315 = p323.2.2.1 := congrArg (fun z => z.2.2.1) (hE318.trans e324.symm)
              have e328 : f316 = p323.2.2.2 := congrArg (fun z => z.2.2.2) (hE318.trans e324.symm)
              replace hO242 := (hu322 _ (by have z0 := yk4; simp only [List.mem_cons, List.not_mem_nil, or_false, not_or]; omega)).trans hO242
              replace hA246 := (hu322 _ (by have z0 := yk4; simp only [List.mem_cons, List.not_mem_nil, or_false, not_or]; omega)).trans hA246
              replace hO247 := (hu322 _ (by have z0 := yk4; simp only [List.mem_cons, List.not_mem_nil, or_false, not_or]; omega)).trans hO247
              replace hA251 := (hu322 _ (by have z0 := yk4; simp only [List.mem_cons, List.not_mem_nil, or_false, not_or]; omega)).trans hA251
              replace hO252 := (hu322 _ (by have z0 := yk4; simp only [List.mem_cons, List.not_mem_nil, or_false, not_or]; omega)).trans hO252
              replace hA256 := (hu322 _ (by have z0 := yk4; simp only [List.mem_cons, List.not_mem_nil, or_false, not_or]; omega)).trans hA256
              replace hO257 := (hu322 _ (by have z0 := yk4; simp only [List.mem_cons, List.not_mem_nil, or_false, not_or]; omega)).trans hO257
              replace hA261 := (hu322 _ (by have z0 := yk4; simp only [List.mem_cons, List.not_mem_nil, or_false, not_or]; omega)).trans hA261
              replace hT8 := (hu322 _ (by have z0 := yk4; simp only [List.mem_cons, List.not_mem_nil, or_false, not_or]; omega)).trans hT8
              replace hT9 := (hu322 _ (by have z0 := yk4; simp only [List.mem_cons, List.not_mem_nil, or_false, not_or]; omega)).trans hT9
              replace hT10 := (hu322 _ (by have z0 := yk4; simp only [List.mem_cons, List.not_mem_nil, or_false, not_or]; omega)).trans hT10
              replace hT11 := (hu322 _ (by have z0 := yk4; simp only [List.mem_cons, List.not_mem_nil, or_false, not_or]; omega)).trans hT11
              replace hT12 := (hu322 _ (by have z0 := yk4; simp only [List.mem_cons, List.not_mem_nil, or_false, not_or]; omega)).trans hT12
              replace hT13 := (hu322 _ (by have z0 := yk4; simp only [List.mem_cons, List.not_mem_nil, or_false, not_or]; omega)).trans hT13
              replace hT14 := (hu322 _ (by have z0 := yk4; simp only [List.mem_cons, List.not_mem_nil, or_false, not_or]; omega)).trans hT14
              replace hT15 := (hu322 _ (by have z0 := yk4; simp only [List.mem_cons, List.not_mem_nil, or_false, not_or]; omega)).trans hT15
              replace hF := q_uc hF hu322 (by simp)
              have hR329 := (show F_NH_powerModulo_aet_c142 x2 x3 x4 x5 t0_0 t0_1 t1_0 t2_0 t2_1 t3_0 t4_0 t4_1 t5_0 t6_0 t6_1 t7_0 t8_0 t8_1 t9_0 t10_0 t10_1 t11_0 t12_0 t12_1 t13_0 t14_0 t14_1 t15_0 t16_0 t16_1 t17_0 lx80 lx130 p217 p288 y243 y244 f245 y248 y249 f250 y253 y254 f255 y258 y259 f260 p323 = (F_NH_powerModulo_aet x2 x3 x4 x5 t0_0 t0_1 t1_0 t2_0 t2_1 t3_0 t4_0 t4_1 t5_0 t6_0 t6_1 t7_0 t8_0 t8_1 t9_0 t10_0 t10_1 t11_0 t12_0 t12_1 t13_0 t14_0 t14_1 t15_0 t16_0 t16_1 t17_0) from Eq.trans (by rw [e324, e304, e303, e302, e301, e300, e299, e298, e297, e296, e295, e294, e293, e292, e291, e290, F_NH_powerModulo_aet_c136.eq_1]) hR305)
              have hS330 := (show True ∧ S_NH_powerModulo_aet_c142 x2 x3 x4 x5 t0_0 t0_1 t1_0 t2_0 t2_1 t3_0 t4_0 t4_1 t5_0 t6_0 t6_1 t7_0 t8_0 t8_1 t9_0 t10_0 t10_1 t11_0 t12_0 t12_1 t13_0 t14_0 t14_1 t15_0 t16_0 t16_1 t17_0 lx80 lx130 p217 p288 y243 y244 f245 y248 y249 f250 y253 y254 f255 y258 y259 f260 p323 from (by rw [e324, e304, e303, e302, e301, e300, e299, e298, e297, e296, e295, e294, e293, e292, e291, e290]; have h := hS306; rw [S_NH_powerModulo_aet_c136.eq_1] at h; replace h := q_s2 h; with_reducible exact h))
              exact q_outT hno C0 V (⟨p323.1, (he320.trans (congrArg qE ((congrArg (fun z => z.1) (hE318.trans e324.symm)) : cx319 = _))), c325, hI, hF, y243, y244, f245, y248, y249, f250, y253, y254, f255, y258, y259, f260, t8_0, t8_1, t9_0, t10_0, t10_1, t11_0, t12_0, t12_1, t13_0, t14_0, t14_1, t15_0, y314, y315, f316, hO242, hA246, hO247, hA251, hO252, hA256, hO257, hA261, hT8, hT9, hT10, hT11, hT12, hT13, hT14, hT15, hO313, hA317, (show (p323.1, y243, y244, f245, y248, y249, f250, y253, y254, f255, y258, y259, f260, t8_0, t8_1, t9_0, t10_0, t10_1, t11_0, t12_0, t12_1, t13_0, t14_0, t14_1, t15_0, y314, y315, f316) = (F_NH_powerModulo_aet x2 x3 x4 x5 t0_0 t0_1 t1_0 t2_0 t2_1 t3_0 t4_0 t4_1 t5_0 t6_0 t6_1 t7_0 t8_0 t8_1 t9_0 t10_0 t10_1 t11_0 t12_0 t12_1 t13_0 t14_0 t14_1 t15_0 t16_0 t16_1 t17_0) from Eq.trans (by rw [e328, e327, e326, F_NH_powerModulo_aet_c142.eq_1, if_neg c325]) hR329)⟩) hce hcv hcl (Nat.le_of_ble_eq_true rfl) (Nat.le_of_ble_eq_true rfl)
            ·
              obtain ⟨hI, hZ9⟩ := hp312
              obtain ⟨hu349, hZ9⟩ := hZ9
              obtain ⟨y335, hZ9⟩ := hZ9
              obtain ⟨y336, hZ9⟩ := hZ9
              obtain ⟨f337, hZ9⟩ := hZ9
              obtain ⟨hO334, hZ9⟩ := hZ9
              obtain ⟨hA338, hZ9⟩ := hZ9
              obtain ⟨b339, hZ9⟩ := hZ9
              obtain ⟨b340, hZ9⟩ := hZ9
              obtain ⟨b341, hZ9⟩ := hZ9
              obtain ⟨b342, hZ9⟩ := hZ9
              obtain ⟨b343, hZ9⟩ := hZ9
              obtain ⟨b344, hZ9⟩ := hZ9
              obtain ⟨b345, hZ9⟩ := hZ9
              obtain ⟨b346, hZ9⟩ := hZ9
              obtain ⟨b347, hE348⟩ := hZ9
              replace hO334 : u311[k4]? = (some (q k4, .inr (2, [.ref (q (k4 + 1)), .int y335, .int y336])) : Option (Nat × va_E)) := hO334
              replace hA338 : u311[k4 + 1]? = (some (q (k4 + 1), .inl (g 0, (68 : Int32).toNatClampNeg, .inl f337)) : Option (Nat × va_E)) := hA338
              obtain ⟨p323, e324⟩ : ∃ z, z = (F_NH_keepWhole x5 y243 y244 f245 y263 y264 f265) := ⟨_, rfl⟩
              have c325 : p323.1 = (0 : Int32) := ((congrArg (fun z => z.1) (hE348.trans e324.symm)) : (0 : Int32) = _).symm
              have e351 : y335 = p323.2.1 := congrArg (fun z => z.2.1) (hE348.trans e324.symm)
              have e352 : y336 = p323.2.2.1 := congrArg (fun z => z.2.2.1) (hE348.trans e324.symm)
              have e353 : f337 = p323.2.2.2 := congrArg (fun z => z.2.2.2) (hE348.trans e324.symm)
              replace b339 : q_F (0 ≤ y335.toInt) := b339
              replace b340 : q_F (y335.toInt ≤ 68) := b340
              replace b341 : q_F (x5.toInt ≤ y335.toInt + 9) := b341
              replace b342 : q_F (y335.toInt ≤ x5.toInt + 68) := b342
              replace b343 : q_F (y335.toInt ≤ y243.toInt) := b343
              replace b344 : q_F (x5.toInt ≤ y336.toInt + 9) := b344
              replace b345 : q_F (y336.toInt ≤ x5.toInt + 1) := b345
              replace b346 : q_F (y244.toInt ≤ y336.toInt) := b346
              replace b347 : q_F (y336.toInt ≤ y244.toInt) := b347
              replace hO242 := (hu349 _ (by have z0 := yk4; simp only [List.mem_cons, List.not_mem_nil, or_false, not_or]; omega)).trans hO242
              replace hA246 := (hu349 _ (by have z0 := yk4; simp only [List.mem_cons, List.not_mem_nil, or_false, not_or]; omega)).trans hA246
              replace hO247 := (hu349 _ (by have z0 := yk4; simp only [List.mem_cons, List.not_mem_nil, or_false, not_or]; omega)).trans hO247
              replace hA251 := (hu349 _ (by have z0 := yk4; simp only [List.mem_cons, List.not_mem_nil, or_false, not_or]; omega)).trans hA251
              replace hO252 := (hu349 _ (by have z0 := yk4; simp only [List.mem_cons, List.not_mem_nil, or_false, not_or]; omega)).trans hO252
              replace hA256 := (hu349 _ (by have z0 := yk4; simp only [List.mem_cons, List.not_mem_nil, or_false, not_or]; omega)).trans hA256
              replace hO257 := (hu349 _ (by have z0 := yk4; simp only [List.mem_cons, List.not_mem_nil, or_false, not_or]; omega)).trans hO257
              replace hA261 := (hu349 _ (by have z0 := yk4; simp only [List.mem_cons, List.not_mem_nil, or_false, not_or]; omega)).trans hA261
              replace hT8 := (hu349 _ (by have z0 := yk4; simp only [List.mem_cons, List.not_mem_nil, or_false, not_or]; omega)).trans hT8
              replace hT9 := (hu349 _ (by have z0 := yk4; simp only [List.mem_cons, List.not_mem_nil, or_false, not_or]; omega)).trans hT9
              replace hT10 := (hu349 _ (by have z0 := yk4; simp only [List.mem_cons, List.not_mem_nil, or_false, not_or]; omega)).trans hT10
              replace hT11 := (hu349 _ (by have z0 := yk4; simp only [List.mem_cons, List.not_mem_nil, or_false, not_or]; omega)).trans hT11
              replace hT12 := (hu349 _ (by have z0 := yk4; simp only [List.mem_cons, List.not_mem_nil, or_false, not_or]; omega)).trans hT12
              replace hT13 := (hu349 _ (by have z0 := yk4; simp only [List.mem_cons, List.not_mem_nil, or_false, not_or]; omega)).trans hT13
              replace hT14 := (hu349 _ (by have z0 := yk4; simp only [List.mem_cons, List.not_mem_nil, or_false, not_or]; omega)).trans hT14
              replace hT15 := (hu349 _ (by have z0 := yk4; simp only [List.mem_cons, List.not_mem_nil, or_false, not_or]; omega)).trans hT15
              replace hF := q_uc hF hu349 (by simp)
              have hR329 := (show F_NH_powerModulo_aet_c142 x2 x3 x4 x5 t0_0 t0_1 t1_0 t2_0 t2_1 t3_0 t4_0 t4_1 t5_0 t6_0 t6_1 t7_0 t8_0 t8_1 t9_0 t10_0 t10_1 t11_0 t12_0 t12_1 t13_0 t14_0 t14_1 t15_0 t16_0 t16_1 t17_0 lx80 lx130 p217 p288 y243 y244 f245 y248 y249 f250 y253 y254 f255 y258 y259 f260 p323 = (F_NH_powerModulo_aet x2 x3 x4 x5 t0_0 t0_1 t1_0 t2_0 t2_1 t3_0 t4_0 t4_1 t5_0 t6_0 t6_1 t7_0 t8_0 t8_1 t9_0 t10_0 t10_1 t11_0 t12_0 t12_1 t13_0 t14_0 t14_1 t15_0 t16_0 t16_1 t17_0) from Eq.trans (by rw [e324, e304, e303, e302, e301, e300, e299, e298, e297, e296, e295, e294, e293, e292, e291, e290, F_NH_powerModulo_aet_c136.eq_1]) hR305)
              have hS330 := (show True ∧ S_NH_powerModulo_aet_c142 x2 x3 x4 x5 t0_0 t0_1 t1_0 t2_0 t2_1 t3_0 t4_0 t4_1 t5_0 t6_0 t6_1 t7_0 t8_0 t8_1 t9_0 t10_0 t10_1 t11_0 t12_0 t12_1 t13_0 t14_0 t14_1 t15_0 t16_0 t16_1 t17_0 lx80 lx130 p217 p288 y243 y244 f245 y248 y249 f250 y253 y254 f255 y258 y259 f260 p323 from (by rw [e324, e304, e303, e302, e301, e300, e299, e298, e297, e296, e295, e294, e293, e292, e291, e290]; have h := hS306; rw [S_NH_powerModulo_aet_c136.eq_1] at h; replace h := q_s2 h; with_reducible exact h))
              refine W.widen (k := 4) (n := 24) (Nat.le_of_ble_eq_true rfl) (Nat.le_of_ble_eq_true rfl) ?_
              exact q_retX (q_retv C0 V (⟨hI, hF, y243, y244, f245, y248, y249, f250, y253, y254, f255, y258, y259, f260, t8_0, t8_1, t9_0, t10_0, t10_1, t11_0, t12_0, t12_1, t13_0, t14_0, t14_1, t15_0, y335, y336, f337, hO242, hA246, hO247, hA251, hO252, hA256, hO257, hA261, hT8, hT9, hT10, hT11, hT12, hT13, hT14, hT15, hO334, hA338, (show 0 ≤ y243.toInt from (by have t1 : 0 ≤ y249.toInt := b267; have t2 : y249.toInt ≤ y243.toInt := b270; omega)), (show y243.toInt ≤ 220 from (by have t1 : y249.toInt ≤ 0 := b268; have t2 : y243.toInt ≤ y253.toInt := b271; have t3 : y253.toInt ≤ y249.toInt + 220 := b276; omega)), (show 0 ≤ y244.toInt from (by have t1 : 0 ≤ y249.toInt := b267; have t2 : y254.toInt ≤ y244.toInt := b272; have t3 : y249.toInt ≤ y254.toInt := b278; omega)), (show y244.toInt ≤ 1 from (by have t1 : y249.toInt ≤ 0 := b268; have t2 : y244.toInt ≤ y254.toInt := b273; have t3 : y254.toInt ≤ y249.toInt + 1 := b277; omega)), (show 0 ≤ y248.toInt from (by have t1 : 0 ≤ y249.toInt := b267; have t2 : y249.toInt ≤ y248.toInt := b274; omega)), (show y248.toInt ≤ 220 from (by have t1 : y249.toInt ≤ 0 := b268; have t2 : y248.toInt ≤ y249.toInt + 220 := b275; omega)), (show 0 ≤ y249.toInt from (by first | with_reducible exact q_fe b267 | (have t1 : 0 ≤ y249.toInt := b267; omega))), (show y249.toInt ≤ 0 from (by first | with_reducible exact q_fe b268 | (have t1 : y249.toInt ≤ 0 := b268; omega))), (show 0 ≤ y253.toInt from (by have t1 : 0 ≤ y249.toInt := b267; have t2 : y249.toInt ≤ y243.toInt := b270; have t3 : y243.toInt ≤ y253.toInt := b271; omega)), (show y253.toInt ≤ 220 from (by have t1 : y249.toInt ≤ 0 := b268; have t2 : y253.toInt ≤ y249.toInt + 220 := b276; omega)), (show 0 ≤ y254.toInt from (by have t1 : 0 ≤ y249.toInt := b267; have t2 : y249.toInt ≤ y254.toInt := b278; omega)), (show y254.toInt ≤ 1 from (by have t1 : y249.toInt ≤ 0 := b268; have t2 : y254.toInt ≤ y249.toInt + 1 := b277; omega)), (show 0 ≤ y258.toInt from (by have t1 : 0 ≤ y249.toInt := b267; have t2 : y249.toInt ≤ y258.toInt := b280; omega)), (show y258.toInt ≤ 220 from (by have t1 : y249.toInt ≤ 0 := b268; have t2 : y258.toInt ≤ y249.toInt + 220 := b279; omega)), (show 0 ≤ y259.toInt from (by have t1 : 0 ≤ y249.toInt := b267; have t2 : y249.toInt ≤ y259.toInt := b282; omega)), (show y259.toInt ≤ 1 from (by have t1 : y249.toInt ≤ 0 := b268; have t2 : y259.toInt ≤ y249.toInt + 1 := b281; omega)), (show 0 ≤ t8_0.toInt from (by first | with_reducible exact (q_fe btt8_0).2 | with_reducible exact (q_fe btt8_0).1 | (have t1 : 0 ≤ t8_0.toInt ∧ t8_0.toInt ≤ 220 := btt8_0; omega))), (show t8_0.toInt ≤ 220 from (by first | with_reducible exact (q_fe btt8_0).2 | with_reducible exact (q_fe btt8_0).1 | (have t1 : 0 ≤ t8_0.toInt ∧ t8_0.toInt ≤ 220 := btt8_0; omega))), (show 0 ≤ t8_1.toInt from (by first | with_reducible exact (q_fe btt8_1).2 | with_reducible exact (q_fe btt8_1).1 | (have t1 : 0 ≤ t8_1.toInt ∧ t8_1.toInt ≤ 1 := btt8_1; omega))), (show t8_1.toInt ≤ 1 from (by first | with_reducible exact (q_fe btt8_1).2 | with_reducible exact (q_fe btt8_1).1 | (have t1 : 0 ≤ t8_1.toInt ∧ t8_1.toInt ≤ 1 := btt8_1; omega))), (show 0 ≤ t10_0.toInt from (by first | with_reducible exact (q_fe btt10_0).2 | with_reducible exact (q_fe btt10_0).1 | (have t1 : 0 ≤ t10_0.toInt ∧ t10_0.toInt ≤ 220 := btt10_0; omega))), (show t10_0.toInt ≤ 220 from (by first | with_reducible exact (q_fe btt10_0).2 | with_reducible exact (q_fe btt10_0).1 | (have t1 : 0 ≤ t10_0.toInt ∧ t10_0.toInt ≤ 220 := btt10_0; omega))), (show 0 ≤ t10_1.toInt from (by first | with_reducible exact (q_fe btt10_1).2 | with_reducible exact (q_fe btt10_1).1 | (have t1 : 0 ≤ t10_1.toInt ∧ t10_1.toInt ≤ 1 := btt10_1; omega))), (show t10_1.toInt ≤ 1 from (by first | with_reducible exact (q_fe btt10_1).2 | with_reducible exact (q_fe btt10_1).1 | (have t1 : 0 ≤ t10_1.toInt ∧ t10_1.toInt ≤ 1 := btt10_1; omega))), (show 0 ≤ t12_0.toInt from (by first | with_reducible exact (q_fe btt12_0).2 | with_reducible exact (q_fe btt12_0).1 | (have t1 : 0 ≤ t12_0.toInt ∧ t12_0.toInt ≤ 220 := btt12_0; omega))), (show t12_0.toInt ≤ 220 from (by first | with_reducible exact (q_fe btt12_0).2 | with_reducible exact (q_fe btt12_0).1 | (have t1 : 0 ≤ t12_0.toInt ∧ t12_0.toInt ≤ 220 := btt12_0; omega))), (show 0 ≤ t12_1.toInt from (by first | with_reducible exact (q_fe btt12_1).2 | with_reducible exact (q_fe btt12_1).1 | (have t1 : 0 ≤ t12_1.toInt ∧ t12_1.toInt ≤ 1 := btt12_1; omega))), (show t12_1.toInt ≤ 1 from (by first | with_reducible exact (q_fe btt12_1).2 | with_reducible exact (q_fe btt12_1).1 | (have t1 : 0 ≤ t12_1.toInt ∧ t12_1.toInt ≤ 1 := btt12_1; omega))), (show 0 ≤ t14_0.toInt from (by first | with_reducible exact (q_fe btt14_0).2 | with_reducible exact (q_fe btt14_0).1 | (have t1 : 0 ≤ t14_0.toInt ∧ t14_0.toInt ≤ 220 := btt14_0; omega))), (show t14_0.toInt ≤ 220 from (by first | with_reducible exact (q_fe btt14_0).2 | with_reducible exact (q_fe btt14_0).1 | (have t1 : 0 ≤ t14_0.toInt ∧ t14_0.toInt ≤ 220 := btt14_0; omega))), (show 0 ≤ t14_1.toInt from (by first | with_reducible exact (q_fe btt14_1).2 | with_reducible exact (q_fe btt14_1).1 | (have t1 : 0 ≤ t14_1.toInt ∧ t14_1.toInt ≤ 1 := btt14_1; omega))), (show t14_1.toInt ≤ 1 from (by first | with_reducible exact (q_fe btt14_1).2 | with_reducible exact (q_fe btt14_1).1 | (have t1 : 0 ≤ t14_1.toInt ∧ t14_1.toInt ≤ 1 := btt14_1; omega))), (show 0 ≤ y335.toInt from (by first | with_reducible exact q_fe b339 | (have t1 : 0 ≤ y335.toInt := b339; omega))), (show y335.toInt ≤ 68 from (by first | with_reducible exact q_fe b340 | (have t1 : y335.toInt ≤ 68 := b340; omega))), (show x2.toInt ≤ y249.toInt + 9 from (by have t1 : x2.toInt ≤ 9 := ob175; have t2 : 0 ≤ y249.toInt := b267; omega)), (show y249.toInt ≤ x2.toInt from (by have t1 : 0 ≤ x2.toInt := ob174; have t2 : y249.toInt ≤ 0 := b268; omega)), (show x3.toInt ≤ y249.toInt + 9 from (by have t1 : x3.toInt ≤ 9 := ob168; have t2 : 0 ≤ y249.toInt := b267; omega)), (show y249.toInt ≤ x3.toInt from (by have t1 : 0 ≤ x3.toInt := ob167; have t2 : y249.toInt ≤ 0 := b268; omega)), (show x4.toInt ≤ y249.toInt + 9 from (by have t1 : x4.toInt ≤ 9 := ob119; have t2 : 0 ≤ y249.toInt := b267; omega)), (show y249.toInt ≤ x4.toInt from (by have t1 : 0 ≤ x4.toInt := ob118; have t2 : y249.toInt ≤ 0 := b268; omega)), (show x5.toInt ≤ y335.toInt + 9 from (by first | with_reducible exact q_fe b341 | (have t1 : x5.toInt ≤ y335.toInt + 9 := b341; omega))), (show y335.toInt ≤ x5.toInt + 68 from (by first | with_reducible exact q_fe b342 | (have t1 : y335.toInt ≤ x5.toInt + 68 := b342; omega))), (show x5.toInt ≤ y336.toInt + 9 from (by first | with_reducible exact q_fe b344 | (have t1 : x5.toInt ≤ y336.toInt + 9 := b344; omega))), (show y336.toInt ≤ x5.toInt + 1 from (by first | with_reducible exact q_fe b345 | (have t1 : y336.toInt ≤ x5.toInt + 1 := b345; omega))), (show y243.toInt ≤ y253.toInt from (by first | with_reducible exact q_fe b271 | (have t1 : y243.toInt ≤ y253.toInt := b271; omega))), (show y335.toInt ≤ y243.toInt from (by first | with_reducible exact q_fe b343 | (have t1 : y335.toInt ≤ y243.toInt := b343; omega))), (show y336.toInt ≤ y244.toInt from (by first | with_reducible exact q_fe b347 | (have t1 : y336.toInt ≤ y244.toInt := b347; omega))), (show y244.toInt ≤ y336.toInt from (by first | with_reducible exact q_fe b346 | (have t1 : y244.toInt ≤ y336.toInt := b346; omega))), (show y336.toInt ≤ y254.toInt from (by have t1 : y244.toInt ≤ y254.toInt := b273; have t2 : y336.toInt ≤ y244.toInt := b347; omega)), (show y254.toInt ≤ y336.toInt from (by have t1 : y254.toInt ≤ y244.toInt := b272; have t2 : y244.toInt ≤ y336.toInt := b346; omega)), (show ((0 : Int32), y243, y244, f245, y248, y249, f250, y253, y254, f255, y258, y259, f260, t8_0, t8_1, t9_0, t10_0, t10_1, t11_0, t12_0, t12_1, t13_0, t14_0, t14_1, t15_0, y335, y336, f337) = (F_NH_powerModulo_aet x2 x3 x4 x5 t0_0 t0_1 t1_0 t2_0 t2_1 t3_0 t4_0 t4_1 t5_0 t6_0 t6_1 t7_0 t8_0 t8_1 t9_0 t10_0 t10_1 t11_0 t12_0 t12_1 t13_0 t14_0 t14_1 t15_0 t16_0 t16_1 t17_0) from Eq.trans (by rw [e353, e352, e351, F_NH_powerModulo_aet_c142.eq_1, if_pos c325]) hR329)⟩) d_1_10_145)
          ·
            refine lv_aload_n hx hb d_1_10_69 rfl (lv_at hl 0 rfl) ?_
            refine q_get (ci := 0) (j := 6) (v := .ref (q 9)) C0 V i_NH rfl rfl hO116 (by decide) w_430 rfl d_1_10_70 ?_
            refine lv_aload_n hx hb d_1_10_73 rfl (lv_at hl 0 rfl) ?_
            refine q_get (ci := 0) (j := 2) (v := .ref (q 5)) C0 V i_NH rfl rfl hO116 (by decide) w_426 rfl d_1_10_74 ?_
            refine lv_iload_n hx hb d_1_10_77 rfl (lv_at hl 1 rfl) ?_
            have hX355 := n_fx hI (n_s5 g q)
            have ob356 : q_F (0 ≤ x2.toInt) := (by have h := hS153; rw [S_NH_powerModulo_aet_J54.eq_1] at h; rw [if_pos c163] at h; replace h := q_s2 h; replace h := q_s2 h; rw [if_neg c171] at h; exact h.2.1)
            have ob357 : q_F (x2.toInt ≤ 9) := (by have h := hS153; rw [S_NH_powerModulo_aet_J54.eq_1] at h; rw [if_pos c163] at h; replace h := q_s2 h; replace h := q_s2 h; rw [if_neg c171] at h; replace h := q_s2 h; exact h.2.1)
            have hj358 : x2.toNatClampNeg < 10 := by have z := q_clI (i := x2) (x := x2.toInt) rfl (by first | with_reducible exact q_fe ob356 | (have t1 : 0 ≤ x2.toInt := ob356; omega)); have t1 : 0 ≤ x2.toInt := ob356; have t2 : x2.toInt ≤ 9 := ob357; omega
            have hq359 := gk4x2 hj358
            refine q_aald (t := 4) (q := q k4) C0 V hX355 rfl (q_ix (x := x2.toInt) rfl (by first | with_reducible exact q_fe ob356 | (have t1 : 0 ≤ x2.toInt := ob356; omega)) (by have t1 : 0 ≤ x2.toInt := ob356; have t2 : x2.toInt ≤ 9 := ob357; omega)) (by rw [hq359]; exact n_fwv hj358) d_1_10_78 ?_
            refine lv_aload_n hx hb d_1_10_79 rfl (lv_at hl 0 rfl) ?_
            refine q_get (ci := 0) (j := 2) (v := .ref (q 5)) C0 V i_NH rfl rfl hO116 (by decide) w_426 rfl d_1_10_80 ?_
            refine lv_iload_n hx hb d_1_10_83 rfl (lv_at hl 3 rfl) ?_
            have hX360 := n_fx hI (n_s5 g q)
            have hj361 : x4.toNatClampNeg < 10 := by have z := q_clI (i := x4) (x := x4.toInt) rfl (by first | with_reducible exact q_fe ob118 | (have t1 : 0 ≤ x4.toInt := ob118; omega)); have t1 : 0 ≤ x4.toInt := ob118; have t2 : x4.toInt ≤ 9 := ob119; omega
            have hq362 := gk4x4 hj361
            refine q_aald (t := 4) (q := q k4) C0 V hX360 rfl (q_ix (x := x4.toInt) rfl (by first | with_reducible exact q_fe ob118 | (have t1 : 0 ≤ x4.toInt := ob118; omega)) (by have t1 : 0 ≤ x4.toInt := ob118; have t2 : x4.toInt ≤ 9 := ob119; omega)) (by rw [hq362]; exact n_fwv hj361) d_1_10_84 ?_
            have ob363 : True ∧ S_Mil_inverse_a (68 : Int32) t0_0 t0_1 t1_0 t2_0 t2_1 t3_0 t6_0 t6_1 t7_0 t8_0 t8_1 t9_0 t10_0 t10_1 t11_0 t12_0 t12_1 t13_0 t14_0 t14_1 t15_0 t16_0 t16_1 t17_0 := (by have h := hS153; rw [S_NH_powerModulo_aet_J54.eq_1] at h; rw [if_pos c163] at h; replace h := q_s2 h; replace h := q_s2 h; rw [if_neg c171] at h; replace h := q_s2 h; replace h := q_s2 h; with_reducible exact h.2.1)
            have hO364 := n_o9 hI
            refine q_goi V (q_runV (As := [.ref (q k4), .ref (q k4)]) (rest := []) (d := 6) (mc := 0) (ms := 0) (ci := 4) C0 V rfl LV_NH_236 (X_Mil_inverse_a l D g q ws k4 68 hBk4 (Or.inr yk4)  (by have z0 := yk4; omega) (by have z0 := yk4; omega) (by have z0 := yk4; omega) (by have z0 := yk4; omega) (by have z0 := yk4; omega) (by have z0 := yk4; omega) (by have z0 := yk4; omega) (by have z0 := yk4; omega) (by have z0 := yk4; omega) (by have z0 := yk4; omega) (by have z0 := yk4; omega) (by have z0 := yk4; omega) (by have z0 := yk4; omega) (by have z0 := yk4; omega) (by have z0 := yk4; omega) (by have z0 := yk4; omega) (by have z0 := yk4; omega) (by have z0 := yk4; omega) (by have z0 := yk4; omega) (by have z0 := yk4; omega) (by have z0 := yk4; omega) hI t0_0 t0_1 hT0 t1_0 hT1 t2_0 t2_1 hT2 t3_0 hT3 t6_0 t6_1 hT6 t7_0 hT7 t8_0 t8_1 hT8 t9_0 hT9 t10_0 t10_1 hT10 t11_0 hT11 t12_0 t12_1 hT12 t13_0 hT13 t14_0 t14_1 hT14 t15_0 hT15 t16_0 t16_1 hT16 t17_0 hT17 ob363 _) rfl rfl hO364 rfl hl.1 rfl (Nat.le_of_ble_eq_true rfl) ⟨by decide, by decide⟩ ⟨Nat.le_of_ble_eq_true rfl, Nat.le_of_ble_eq_true rfl⟩ d_1_10_85) (fun a367 u365 H locs hp366 V => ?_)
            obtain ⟨hI, hZ9⟩ := hp366
            obtain ⟨hu446, hZ9⟩ := hZ9
            obtain ⟨y369, hZ9⟩ := hZ9
            obtain ⟨y370, hZ9⟩ := hZ9
            obtain ⟨f371, hZ9⟩ := hZ9
            obtain ⟨y374, hZ9⟩ := hZ9
            obtain ⟨y375, hZ9⟩ := hZ9
            obtain ⟨f376, hZ9⟩ := hZ9
            obtain ⟨y379, hZ9⟩ := hZ9
            obtain ⟨y380, hZ9⟩ := hZ9
            obtain ⟨f381, hZ9⟩ := hZ9
            obtain ⟨y384, hZ9⟩ := hZ9
            obtain ⟨y385, hZ9⟩ := hZ9
            obtain ⟨f386, hZ9⟩ := hZ9
            obtain ⟨y389, hZ9⟩ := hZ9
            obtain ⟨y390, hZ9⟩ := hZ9
            obtain ⟨f391, hZ9⟩ := hZ9
            obtain ⟨y394, hZ9⟩ := hZ9
            obtain ⟨y395, hZ9⟩ := hZ9
            obtain ⟨f396, hZ9⟩ := hZ9
            obtain ⟨y399, hZ9⟩ := hZ9
            obtain ⟨y400, hZ9⟩ := hZ9
            obtain ⟨f401, hZ9⟩ := hZ9
            obtain ⟨y404, hZ9⟩ := hZ9
            obtain ⟨y405, hZ9⟩ := hZ9
            obtain ⟨f406, hZ9⟩ := hZ9
            obtain ⟨hO368, hZ9⟩ := hZ9
            obtain ⟨hA372, hZ9⟩ := hZ9
            obtain ⟨hO373, hZ9⟩ := hZ9
            obtain ⟨hA377, hZ9⟩ := hZ9
            obtain ⟨hO378, hZ9⟩ := hZ9
            obtain ⟨hA382, hZ9⟩ := hZ9
            obtain ⟨hO383, hZ9⟩ := hZ9
            obtain ⟨hA387, hZ9⟩ := hZ9
            obtain ⟨hO388, hZ9⟩ := hZ9
            obtain ⟨hA392, hZ9⟩ := hZ9
            obtain ⟨hO393, hZ9⟩ := hZ9
            obtain ⟨hA397, hZ9⟩ := hZ9
            obtain ⟨hO398, hZ9⟩ := hZ9
            obtain ⟨hA402, hZ9⟩ := hZ9
            obtain ⟨hO403, hZ9⟩ := hZ9
            obtain ⟨hA407, hZ9⟩ := hZ9
            obtain ⟨b408, hZ9⟩ := hZ9
            obtain ⟨b409, hZ9⟩ := hZ9
            replace hZ9 := hZ9.2.2.2.2.2.2.2.2.2.2.2.2
            obtain ⟨b422, hZ9⟩ := hZ9
            obtain ⟨b423, hZ9⟩ := hZ9
            obtain ⟨b424, hZ9⟩ := hZ9
            obtain ⟨b425, hZ9⟩ := hZ9
            obtain ⟨b426, hZ9⟩ := hZ9
            obtain ⟨b427, hZ9⟩ := hZ9
            obtain ⟨b428, hZ9⟩ := hZ9
            obtain ⟨b429, hZ9⟩ := hZ9
            obtain ⟨b430, hZ9⟩ := hZ9
            obtain ⟨b431, hZ9⟩ := hZ9
            obtain ⟨b432, hZ9⟩ := hZ9
            obtain ⟨b433, hZ9⟩ := hZ9
            obtain ⟨b434, hZ9⟩ := hZ9
            obtain ⟨b435, hZ9⟩ := hZ9
            replace hZ9 := hZ9.2.2.2.2.2
            obtain ⟨b441, hZ9⟩ := hZ9
            obtain ⟨b442, hZ9⟩ := hZ9
            replace hZ9 := hZ9.2
            obtain ⟨-, hE445⟩ := hZ9
            replace hO368 : u365[10]? = (some (q 10, .inr (2, [.ref (q 11), .int y369, .int y370])) : Option (Nat × va_E)) := hO368
            replace hA372 : u365[11]? = (some (q 11, .inl (g 0, (220 : Int32).toNatClampNeg, .inl f371)) : Option (Nat × va_E)) := hA372
            replace hO373 : u365[12]? = (some (q 12, .inr (2, [.ref (q 13), .int y374, .int y375])) : Option (Nat × va_E)) := hO373
            replace hA377 : u365[13]? = (some (q 13, .inl (g 0, (220 : Int32).toNatClampNeg, .inl f376)) : Option (Nat × va_E)) := hA377
            replace hO378 : u365[18]? = (some (q 18, .inr (2, [.ref (q 19), .int y379, .int y380])) : Option (Nat × va_E)) := hO378
            replace hA382 : u365[19]? = (some (q 19, .inl (g 0, (220 : Int32).toNatClampNeg, .inl f381)) : Option (Nat × va_E)) := hA382
            replace hO383 : u365[22]? = (some (q 22, .inr (2, [.ref (q 23), .int y384, .int y385])) : Option (Nat × va_E)) := hO383
            replace hA387 : u365[23]? = (some (q 23, .inl (g 0, (220 : Int32).toNatClampNeg, .inl f386)) : Option (Nat × va_E)) := hA387
            replace hO388 : u365[24]? = (some (q 24, .inr (2, [.ref (q 25), .int y389, .int y390])) : Option (Nat × va_E)) := hO388
            replace hA392 : u365[25]? = (some (q 25, .inl (g 0, (220 : Int32).toNatClampNeg, .inl f391)) : Option (Nat × va_E)) := hA392
            replace hO393 : u365[26]? = (some (q 26, .inr (2, [.ref (q 27), .int y394, .int y395])) : Option (Nat × va_E)) := hO393
            replace hA397 : u365[27]? = (some (q 27, .inl (g 0, (220 : Int32).toNatClampNeg, .inl f396)) : Option (Nat × va_E)) := hA397
            replace hO398 : u365[28]? = (some (q 28, .inr (2, [.ref (q 29), .int y399, .int y400])) : Option (Nat × va_E)) := hO398
            replace hA402 : u365[29]? = (some (q 29, .inl (g 0, (220 : Int32).toNatClampNeg, .inl f401)) : Option (Nat × va_E)) := hA402
            replace hO403 : u365[k4]? = (some (q k4, .inr (2, [.ref (q (k4 + 1)), .int y404, .int y405])) : Option (Nat × va_E)) := hO403
            replace hA407 : u365[k4 + 1]? = (some (q (k4 + 1), .inl (g 0, (68 : Int32).toNatClampNeg, .inl f406)) : Option (Nat × va_E)) := hA407
            obtain ⟨p447, e448⟩ : ∃ z, z = (F_Mil_inverse_a (68 : Int32) t0_0 t0_1 t1_0 t2_0 t2_1 t3_0 t6_0 t6_1 t7_0 t8_0 t8_1 t9_0 t10_0 t10_1 t11_0 t12_0 t12_1 t13_0 t14_0 t14_1 t15_0 t16_0 t16_1 t17_0) := ⟨_, rfl⟩
            have e449 : a367 = p447.1 := congrArg (fun z => z.1) (hE445.trans e448.symm)
            have e450 : y369 = p447.2.1 := congrArg (fun z => z.2.1) (hE445.trans e448.symm)
            have e451 : y370 = p447.2.2.1 := congrArg (fun z => z.2.2.1) (hE445.trans e448.symm)
            have e452 : f371 = p447.2.2.2.1 := congrArg (fun z => z.2.2.2.1) (hE445.trans e448.symm)
            have e453 : y374 = p447.2.2.2.2.1 := congrArg (fun z => z.2.2.2.2.1) (hE445.trans e448.symm)
            have e454 : y375 = p447.2.2.2.2.2.1 := congrArg (fun z => z.2.2.2.2.2.1) (hE445.trans e448.symm)
            have e455 : f376 = p447.2.2.2.2.2.2.1 := congrArg (fun z => z.2.2.2.2.2.2.1) (hE445.trans e448.symm)
            have e456 : y379 = p447.2.2.2.2.2.2.2.1 := congrArg (fun z => z.2.2.2.2.2.2.2.1) (hE445.trans e448.symm)
            have e457 : y380 = p447.2.2.2.2.2.2.2.2.1 := congrArg (fun z => z.2.2.2.2.2.2.2.2.1) (hE445.trans e448.symm)
            have e458 : f381 = p447.2.2.2.2.2.2.2.2.2.1 := congrArg (fun z => z.2.2.2.2.2.2.2.2.2.1) (hE445.trans e448.symm)
            have e459 : y384 = p447.2.2.2.2.2.2.2.2.2.2.1 := congrArg (fun z => z.2.2.2.2.2.2.2.2.2.2.1) (hE445.trans e448.symm)
            have e460 : y385 = p447.2.2.2.2.2.2.2.2.2.2.2.1 := congrArg (fun z => z.2.2.2.2.2.2.2.2.2.2.2.1) (hE445.trans e448.symm)
            have e461 : f386 = p447.2.2.2.2.2.2.2.2.2.2.2.2.1 := congrArg (fun z => z.2.2.2.2.2.2.2.2.2.2.2.2.1) (hE445.trans e448.symm)
            have e462 : y389 = p447.2.2.2.2.2.2.2.2.2.2.2.2.2.1 := congrArg (fun z => z.2.2.2.2.2.2.2.2.2.2.2.2.2.1) (hE445.trans e448.symm)
            have e463 : y390 = p447.2.2.2.2.2.2.2.2.2.2.2.2.2.2.1 := congrArg (fun z => z.2.2.2.2.2.2.2.2.2.2.2.2.2.2.1) (hE445.trans e448.symm)
            have e464 : f391 = p447.2.2.2.2.2.2.2.2.2.2.2.2.2.2.2.1 := congrArg (fun z => z.2.2.2.2.2.2.2.2.2.2.2.2.2.2.2.1) (hE445.trans e448.symm)
            have e465 : y394 = p447.2.2.2.2.2.2.2.2.2.2.2.2.2.2.2.2.1 := congrArg (fun z => z.2.2.2.2.2.2.2.2.2.2.2.2.2.2.2.2.1) (hE445.trans e448.symm)
            have e466 : y395 = p447.2.2.2.2.2.2.2.2.2.2.2.2.2.2.2.2.2.1 := congrArg (fun z => z.2.2.2.2.2.2.2.2.2.2.2.2.2.2.2.2.2.1) (hE445.trans e448.symm)
            have e467 : f396 = p447.2.2.2.2.2.2.2.2.2.2.2.2.2.2.2.2.2.2.1 := congrArg (fun z => z.2.2.2.2.2.2.2.2.2.2.2.2.2.2.2.2.2.2.1) (hE445.trans e448.symm)
            have e468 : y399 = p447.2.2.2.2.2.2.2.2.2.2.2.2.2.2.2.2.2.2.2.1 := congrArg (fun z => z.2.2.2.2.2.2.2.2.2.2.2.2.2.2.2.2.2.2.2.1) (hE445.trans e448.symm)
            have e469 : y400 = p447.2.2.2.2.2.2.2.2.2.2.2.2.2.2.2.2.2.2.2.2.1 := congrArg (fun z => z.2.2.2.2.2.2.2.2.2.2.2.2.2.2.2.2.2.2.2.2.1) (hE445.trans e448.symm)
            have e470 : f401 = p447.2.2.2.2.2.2.2.2.2.2.2.2.2.2.2.2.2.2.2.2.2.1 := congrArg (fun z => z.2.2.2.2.2.2.2.2.2.2.2.2.2.2.2.2.2.2.2.2.2.1) (hE445.trans e448.symm)
            have e471 : y404 = p447.2.2.2.2.2.2.2.2.2.2.2.2.2.2.2.2.2.2.2.2.2.2.1 := congrArg (fun z => z.2.2.2.2.2.2.2.2.2.2.2.2.2.2.2.2.2.2.2.2.2.2.1) (hE445.trans e448.symm)
            have e472 : y405 = p447.2.2.2.2.2.2.2.2.2.2.2.2.2.2.2.2.2.2.2.2.2.2.2.1 := congrArg (fun z => z.2.2.2.2.2.2.2.2.2.2.2.2.2.2.2.2.2.2.2.2.2.2.2.1) (hE445.trans e448.symm)
            have e473 : f406 = p447.2.2.2.2.2.2.2.2.2.2.2.2.2.2.2.2.2.2.2.2.2.2.2.2 := congrArg (fun z => z.2.2.2.2.2.2.2.2.2.2.2.2.2.2.2.2.2.2.2.2.2.2.2.2) (hE445.trans e448.symm)
            replace b408 : q_F (0 ≤ a367.toInt) := b408
            replace b409 : q_F (a367.toInt ≤ 1) := b409
            replace b422 : q_F (0 ≤ y384.toInt) := b422
            replace b423 : q_F (y384.toInt ≤ 220) := b423
            replace b424 : q_F (0 ≤ y385.toInt) := b424
            replace b425 : q_F (0 ≤ y389.toInt) := b425
            replace b426 : q_F (y389.toInt ≤ 220) := b426
            replace b427 : q_F (0 ≤ y390.toInt) := b427
            replace b428 : q_F (0 ≤ y394.toInt) := b428
            replace b429 : q_F (y394.toInt ≤ 220) := b429
            replace b430 : q_F (0 ≤ y395.toInt) := b430
            replace b431 : q_F (y395.toInt ≤ 1) := b431
            replace b432 : q_F (0 ≤ y399.toInt) := b432
            replace b433 : q_F (y399.toInt ≤ 220) := b433
            replace b434 : q_F (0 ≤ y400.toInt) := b434
            replace b435 : q_F (y400.toInt ≤ 1) := b435
            replace b441 : q_F (y385.toInt ≤ t16_1.toInt) := b441
            replace b442 : q_F (y390.toInt ≤ t16_1.toInt) := b442
            replace hT4 := (hu446 _ (by have z0 := yk4; simp only [List.mem_cons, List.not_mem_nil, or_false, not_or]; omega)).trans hT4
            replace hT5 := (hu446 _ (by have z0 := yk4; simp only [List.mem_cons, List.not_mem_nil, or_false, not_or]; omega)).trans hT5
            replace hO116 := (hu446 _ (by have z0 := yk4; simp only [List.mem_cons, List.not_mem_nil, or_false, not_or]; omega)).trans hO116
            replace hO364 := (hu446 _ (by have z0 := yk4; simp only [List.mem_cons, List.not_mem_nil, or_false, not_or]; omega)).trans hO364
            replace hF := q_uc hF hu446 (by simp)
            have hR474 := (show F_NH_powerModulo_aet_c85 x2 x3 x4 x5 t0_0 t0_1 t1_0 t2_0 t2_1 t3_0 t4_0 t4_1 t5_0 t6_0 t6_1 t7_0 t8_0 t8_1 t9_0 t10_0 t10_1 t11_0 t12_0 t12_1 t13_0 t14_0 t14_1 t15_0 t16_0 t16_1 t17_0 lx80 lx130 p447 = (F_NH_powerModulo_aet x2 x3 x4 x5 t0_0 t0_1 t1_0 t2_0 t2_1 t3_0 t4_0 t4_1 t5_0 t6_0 t6_1 t7_0 t8_0 t8_1 t9_0 t10_0 t10_1 t11_0 t12_0 t12_1 t13_0 t14_0 t14_1 t15_0 t16_0 t16_1 t17_0) from Eq.trans (by rw [e448, F_NH_powerModulo_aet_J54.eq_1, if_pos c163, if_neg c171]) hR152)
            have hS475 := (show True ∧ S_NH_powerModulo_aet_c85 x2 x3 x4 x5 t0_0 t0_1 t1_0 t2_0 t2_1 t3_0 t4_0 t4_1 t5_0 t6_0 t6_1 t7_0 t8_0 t8_1 t9_0 t10_0 t10_1 t11_0 t12_0 t12_1 t13_0 t14_0 t14_1 t15_0 t16_0 t16_1 t17_0 lx80 lx130 p447 from (by rw [e448]; have h := hS153; rw [S_NH_powerModulo_aet_J54.eq_1] at h; rw [if_pos c163] at h; replace h := q_s2 h; replace h := q_s2 h; rw [if_neg c171] at h; replace h := q_s2 h; replace h := q_s2 h; replace h := q_s2 h; with_reducible exact h))
            refine q_goxv V (q_runSX (As := [.int a367]) (rest := []) (d := 7) (mc := 1) (ms := 6) C0 V rfl LS_NH_138 (X_NH_canHave l D g q u365  a367 hlt hI  ⟨(by first | with_reducible exact q_fe b408 | (have t1 : 0 ≤ a367.toInt := b408; omega)), (by first | with_reducible exact q_fe b409 | (have t1 : a367.toInt ≤ 1 := b409; omega))⟩ _) rfl hl.1 rfl (Nat.le_of_ble_eq_true rfl) ⟨by decide, by decide⟩ ⟨Nat.le_of_ble_eq_true rfl, Nat.le_of_ble_eq_true rfl⟩ d_1_10_88) (fun qx Ex ce u479 H locs hp480 V hce hcv hcl => ?_) (fun u479 H locs hp480 V => ?_)
            ·
              obtain ⟨cx482, he483, hc484, rfl, hE481⟩ := hp480
              have c485 : ¬ (F_NH_canHave a367) = (0 : Int32) := fun z => hc484 (((hE481) : cx482 = _).trans z)
              exact q_outT hno C0 V (⟨(F_NH_canHave a367), (he483.trans (congrArg qE ((hE481) : cx482 = _))), c485, hI, hF, y369, y370, f371, y374, y375, f376, t4_0, t4_1, t5_0, y379, y380, f381, y384, y385, f386, y389, y390, f391, y394, y395, f396, y399, y400, f401, y404, y405, f406, hO368, hA372, hO373, hA377, hT4, hT5, hO378, hA382, hO383, hA387, hO388, hA392, hO393, hA397, hO398, hA402, hO403, hA407, (show ((F_NH_canHave a367), y369, y370, f371, y374, y375, f376, t4_0, t4_1, t5_0, y379, y380, f381, y384, y385, f386, y389, y390, f391, y394, y395, f396, y399, y400, f401, y404, y405, f406) = (F_NH_powerModulo_aet x2 x3 x4 x5 t0_0 t0_1 t1_0 t2_0 t2_1 t3_0 t4_0 t4_1 t5_0 t6_0 t6_1 t7_0 t8_0 t8_1 t9_0 t10_0 t10_1 t11_0 t12_0 t12_1 t13_0 t14_0 t14_1 t15_0 t16_0 t16_1 t17_0) from Eq.trans (by have c485x := c485; rw [e449] at c485x; rw [e473, e472, e471, e470, e469, e468, e467, e466, e465, e464, e463, e462, e461, e460, e459, e458, e457, e456, e455, e454, e453, e452, e451, e450, e449, F_NH_powerModulo_aet_c85.eq_1, if_neg c485x]) hR474)⟩) hce hcv hcl (Nat.le_of_ble_eq_true rfl) (Nat.le_of_ble_eq_true rfl)
            ·
              obtain ⟨rfl, hE486⟩ := hp480
              have c485 : (F_NH_canHave a367) = (0 : Int32) := ((hE486) : (0 : Int32) = _).symm
              refine lv_goto (tgt := 120) hx hb d_1_10_91 (by decide) ?_
              refine lv_aload_n hx hb d_1_10_120 rfl (lv_at hl 0 rfl) ?_
              refine q_get (ci := 0) (j := 6) (v := .ref (q 9)) C0 V i_NH rfl rfl hO116 (by decide) w_430 rfl d_1_10_121 ?_
              refine lv_aload_n hx hb d_1_10_124 rfl (lv_at hl 0 rfl) ?_
              refine q_get (ci := 0) (j := 2) (v := .ref (q 5)) C0 V i_NH rfl rfl hO116 (by decide) w_426 rfl d_1_10_125 ?_
              refine lv_iload_n hx hb d_1_10_128 rfl (lv_at hl 2 rfl) ?_
              have hX488 := n_fx hI (n_s5 g q)
              have hj489 : x3.toNatClampNeg < 10 := by have z := q_clI (i := x3) (x := x3.toInt) rfl (by first | with_reducible exact q_fe ob167 | (have t1 : 0 ≤ x3.toInt := ob167; omega)); have t1 : 0 ≤ x3.toInt := ob167; have t2 : x3.toInt ≤ 9 := ob168; omega
              have hq490 := gk4x3 hj489
              refine q_aald (t := 4) (q := q k4) C0 V hX488 rfl (q_ix (x := x3.toInt) rfl (by first | with_reducible exact q_fe ob167 | (have t1 : 0 ≤ x3.toInt := ob167; omega)) (by have t1 : 0 ≤ x3.toInt := ob167; have t2 : x3.toInt ≤ 9 := ob168; omega)) (by rw [hq490]; exact n_fwv hj489) d_1_10_129 ?_
              refine lv_aload_n hx hb d_1_10_130 rfl (lv_at hl 0 rfl) ?_
              refine q_get (ci := 0) (j := 2) (v := .ref (q 5)) C0 V i_NH rfl rfl hO116 (by decide) w_426 rfl d_1_10_131 ?_
              refine lv_iload_n hx hb d_1_10_134 rfl (lv_at hl 3 rfl) ?_
              have hX491 := n_fx hI (n_s5 g q)
              have hj492 : x4.toNatClampNeg < 10 := by have z := q_clI (i := x4) (x := x4.toInt) rfl (by first | with_reducible exact q_fe ob118 | (have t1 : 0 ≤ x4.toInt := ob118; omega)); have t1 : 0 ≤ x4.toInt := ob118; have t2 : x4.toInt ≤ 9 := ob119; omega
              have hq493 := gk4x4 hj492
              refine q_aald (t := 4) (q := q k4) C0 V hX491 rfl (q_ix (x := x4.toInt) rfl (by first | with_reducible exact q_fe ob118 | (have t1 : 0 ≤ x4.toInt := ob118; omega)) (by have t1 : 0 ≤ x4.toInt := ob118; have t2 : x4.toInt ≤ 9 := ob119; omega)) (by rw [hq493]; exact n_fwv hj492) d_1_10_135 ?_
              have ob494 : True ∧ S_Mil_powerBelow_a (68 : Int32) y369 y370 f371 y374 y375 f376 t4_0 t4_1 t5_0 y379 y380 f381 y404 y405 f406 := (by rw [e473, e472, e471, e458, e457, e456, e455, e454, e453, e452, e451, e450]; have h := hS475; rw [S_NH_powerModulo_aet_c85.eq_1] at h; have c485x := c485; rw [e449] at c485x; rw [if_pos c485x] at h; with_reducible exact h.2.1)
              refine q_gov V (q_runV (As := [.ref (q k4), .ref (q k4)]) (rest := []) (d := 5) (mc := 0) (ms := 0) (ci := 4) C0 V rfl LV_NH_266 (X_Mil_powerBelow_a l D g q u365 k4 68 hBk4 (Or.inr yk4)  (by have z0 := yk4; omega) (by have z0 := yk4; omega) (by have z0 := yk4; omega) (by have z0 := yk4; omega) (by have z0 := yk4; omega) (by have z0 := yk4; omega) (by have z0 := yk4; omega) (by have z0 := yk4; omega) (by have z0 := yk4; omega) (by have z0 := yk4; omega) (by have z0 := yk4; omega) (by have z0 := yk4; omega) hI y369 y370 hO368 f371 hA372 y374 y375 hO373 f376 hA377 t4_0 t4_1 hT4 t5_0 hT5 y379 y380 hO378 f381 hA382 y404 y405 hO403 f406 hA407 ob494 _) rfl rfl hO364 rfl hl.1 rfl (Nat.le_of_ble_eq_true rfl) ⟨by decide, by decide⟩ ⟨Nat.le_of_ble_eq_true rfl, Nat.le_of_ble_eq_true rfl⟩ d_1_10_136) (fun u495 H locs hp496 V => ?_)
              obtain ⟨hI, hZ9⟩ := hp496
              obtain ⟨hu542, hZ9⟩ := hZ9
              obtain ⟨y498, hZ9⟩ := hZ9
              obtain ⟨y499, hZ9⟩ := hZ9
              obtain ⟨f500, hZ9⟩ := hZ9
              obtain ⟨y503, hZ9⟩ := hZ9
              obtain ⟨y504, hZ9⟩ := hZ9
              obtain ⟨f505, hZ9⟩ := hZ9
              obtain ⟨y508, hZ9⟩ := hZ9
              obtain ⟨y509, hZ9⟩ := hZ9
              obtain ⟨f510, hZ9⟩ := hZ9
              obtain ⟨y513, hZ9⟩ := hZ9
              obtain ⟨y514, hZ9⟩ := hZ9
              obtain ⟨f515, hZ9⟩ := hZ9
              obtain ⟨y518, hZ9⟩ := hZ9
              obtain ⟨y519, hZ9⟩ := hZ9
              obtain ⟨f520, hZ9⟩ := hZ9
              obtain ⟨hO497, hZ9⟩ := hZ9
              obtain ⟨hA501, hZ9⟩ := hZ9
              obtain ⟨hO502, hZ9⟩ := hZ9
              obtain ⟨hA506, hZ9⟩ := hZ9
              obtain ⟨hO507, hZ9⟩ := hZ9
              obtain ⟨hA511, hZ9⟩ := hZ9
              obtain ⟨hO512, hZ9⟩ := hZ9
              obtain ⟨hA516, hZ9⟩ := hZ9
              obtain ⟨hO517, hZ9⟩ := hZ9
              obtain ⟨hA521, hZ9⟩ := hZ9
              obtain ⟨b522, hZ9⟩ := hZ9
              obtain ⟨b523, hZ9⟩ := hZ9
              replace hZ9 := hZ9.2
              obtain ⟨b525, hZ9⟩ := hZ9
              obtain ⟨b526, hZ9⟩ := hZ9
              obtain ⟨b527, hZ9⟩ := hZ9
              obtain ⟨b528, hZ9⟩ := hZ9
              obtain ⟨b529, hZ9⟩ := hZ9
              obtain ⟨b530, hZ9⟩ := hZ9
              obtain ⟨b531, hZ9⟩ := hZ9
              obtain ⟨b532, hZ9⟩ := hZ9
              obtain ⟨b533, hZ9⟩ := hZ9
              obtain ⟨b534, hZ9⟩ := hZ9
              obtain ⟨b535, hZ9⟩ := hZ9
              obtain ⟨b536, hZ9⟩ := hZ9
              obtain ⟨b537, hZ9⟩ := hZ9
              replace hZ9 := hZ9.2.2
              obtain ⟨-, hE541⟩ := hZ9
              replace hO497 : u495[10]? = (some (q 10, .inr (2, [.ref (q 11), .int y498, .int y499])) : Option (Nat × va_E)) := hO497
              replace hA501 : u495[11]? = (some (q 11, .inl (g 0, (220 : Int32).toNatClampNeg, .inl f500)) : Option (Nat × va_E)) := hA501
              replace hO502 : u495[12]? = (some (q 12, .inr (2, [.ref (q 13), .int y503, .int y504])) : Option (Nat × va_E)) := hO502
              replace hA506 : u495[13]? = (some (q 13, .inl (g 0, (220 : Int32).toNatClampNeg, .inl f505)) : Option (Nat × va_E)) := hA506
              replace hO507 : u495[14]? = (some (q 14, .inr (2, [.ref (q 15), .int y508, .int y509])) : Option (Nat × va_E)) := hO507
              replace hA511 : u495[15]? = (some (q 15, .inl (g 0, (220 : Int32).toNatClampNeg, .inl f510)) : Option (Nat × va_E)) := hA511
              replace hO512 : u495[18]? = (some (q 18, .inr (2, [.ref (q 19), .int y513, .int y514])) : Option (Nat × va_E)) := hO512
              replace hA516 : u495[19]? = (some (q 19, .inl (g 0, (220 : Int32).toNatClampNeg, .inl f515)) : Option (Nat × va_E)) := hA516
              replace hO517 : u495[k4]? = (some (q k4, .inr (2, [.ref (q (k4 + 1)), .int y518, .int y519])) : Option (Nat × va_E)) := hO517
              replace hA521 : u495[k4 + 1]? = (some (q (k4 + 1), .inl (g 0, (68 : Int32).toNatClampNeg, .inl f520)) : Option (Nat × va_E)) := hA521
              obtain ⟨p543, e544⟩ : ∃ z, z = (F_Mil_powerBelow_a (68 : Int32) y369 y370 f371 y374 y375 f376 t4_0 t4_1 t5_0 y379 y380 f381 y404 y405 f406) := ⟨_, rfl⟩
              have e545 : y498 = p543.1 := congrArg (fun z => z.1) (hE541.trans e544.symm)
              have e546 : y499 = p543.2.1 := congrArg (fun z => z.2.1) (hE541.trans e544.symm)
              have e547 : f500 = p543.2.2.1 := congrArg (fun z => z.2.2.1) (hE541.trans e544.symm)
              have e548 : y503 = p543.2.2.2.1 := congrArg (fun z => z.2.2.2.1) (hE541.trans e544.symm)
              have e549 : y504 = p543.2.2.2.2.1 := congrArg (fun z => z.2.2.2.2.1) (hE541.trans e544.symm)
              have e550 : f505 = p543.2.2.2.2.2.1 := congrArg (fun z => z.2.2.2.2.2.1) (hE541.trans e544.symm)
              have e551 : y508 = p543.2.2.2.2.2.2.1 := congrArg (fun z => z.2.2.2.2.2.2.1) (hE541.trans e544.symm)
              have e552 : y509 = p543.2.2.2.2.2.2.2.1 := congrArg (fun z => z.2.2.2.2.2.2.2.1) (hE541.trans e544.symm)
              have e553 : f510 = p543.2.2.2.2.2.2.2.2.1 := congrArg (fun z => z.2.2.2.2.2.2.2.2.1) (hE541.trans e544.symm)
              have e554 : y513 = p543.2.2.2.2.2.2.2.2.2.1 := congrArg (fun z => z.2.2.2.2.2.2.2.2.2.1) (hE541.trans e544.symm)
              have e555 : y514 = p543.2.2.2.2.2.2.2.2.2.2.1 := congrArg (fun z => z.2.2.2.2.2.2.2.2.2.2.1) (hE541.trans e544.symm)
              have e556 : f515 = p543.2.2.2.2.2.2.2.2.2.2.2.1 := congrArg (fun z => z.2.2.2.2.2.2.2.2.2.2.2.1) (hE541.trans e544.symm)
              have e557 : y518 = p543.2.2.2.2.2.2.2.2.2.2.2.2.1 := congrArg (fun z => z.2.2.2.2.2.2.2.2.2.2.2.2.1) (hE541.trans e544.symm)
              have e558 : y519 = p543.2.2.2.2.2.2.2.2.2.2.2.2.2.1 := congrArg (fun z => z.2.2.2.2.2.2.2.2.2.2.2.2.2.1) (hE541.trans e544.symm)
              have e559 : f520 = p543.2.2.2.2.2.2.2.2.2.2.2.2.2.2 := congrArg (fun z => z.2.2.2.2.2.2.2.2.2.2.2.2.2.2) (hE541.trans e544.symm)
              replace b522 : q_F (0 ≤ y504.toInt) := b522
              replace b523 : q_F (y504.toInt ≤ 0) := b523
              replace b525 : q_F (y504.toInt ≤ y498.toInt) := b525
              replace b526 : q_F (y498.toInt ≤ y508.toInt) := b526
              replace b527 : q_F (y509.toInt ≤ y499.toInt) := b527
              replace b528 : q_F (y499.toInt ≤ y509.toInt) := b528
              replace b529 : q_F (y504.toInt ≤ y503.toInt) := b529
              replace b530 : q_F (y503.toInt ≤ y504.toInt + 220) := b530
              replace b531 : q_F (y508.toInt ≤ y504.toInt + 220) := b531
              replace b532 : q_F (y509.toInt ≤ y504.toInt + 1) := b532
              replace b533 : q_F (y504.toInt ≤ y509.toInt) := b533
              replace b534 : q_F (y513.toInt ≤ y504.toInt + 220) := b534
              replace b535 : q_F (y504.toInt ≤ y513.toInt) := b535
              replace b536 : q_F (y514.toInt ≤ y504.toInt + 1) := b536
              replace b537 : q_F (y504.toInt ≤ y514.toInt) := b537
              replace hO383 := (hu542 _ (by have z0 := yk4; simp only [List.mem_cons, List.not_mem_nil, or_false, not_or]; omega)).trans hO383
              replace hA387 := (hu542 _ (by have z0 := yk4; simp only [List.mem_cons, List.not_mem_nil, or_false, not_or]; omega)).trans hA387
              replace hO388 := (hu542 _ (by have z0 := yk4; simp only [List.mem_cons, List.not_mem_nil, or_false, not_or]; omega)).trans hO388
              replace hA392 := (hu542 _ (by have z0 := yk4; simp only [List.mem_cons, List.not_mem_nil, or_false, not_or]; omega)).trans hA392
              replace hO393 := (hu542 _ (by have z0 := yk4; simp only [List.mem_cons, List.not_mem_nil, or_false, not_or]; omega)).trans hO393
              replace hA397 := (hu542 _ (by have z0 := yk4; simp only [List.mem_cons, List.not_mem_nil, or_false, not_or]; omega)).trans hA397
              replace hO398 := (hu542 _ (by have z0 := yk4; simp only [List.mem_cons, List.not_mem_nil, or_false, not_or]; omega)).trans hO398
              replace hA402 := (hu542 _ (by have z0 := yk4; simp only [List.mem_cons, List.not_mem_nil, or_false, not_or]; omega)).trans hA402
              replace hO116 := (hu542 _ (by have z0 := yk4; simp only [List.mem_cons, List.not_mem_nil, or_false, not_or]; omega)).trans hO116
              replace hF := q_uc hF hu542 (by simp)
              have hR560 := (show F_NH_powerModulo_aet_c136_7 x2 x3 x4 x5 t0_0 t0_1 t1_0 t2_0 t2_1 t3_0 t4_0 t4_1 t5_0 t6_0 t6_1 t7_0 t8_0 t8_1 t9_0 t10_0 t10_1 t11_0 t12_0 t12_1 t13_0 t14_0 t14_1 t15_0 t16_0 t16_1 t17_0 lx80 lx130 p447 y384 y385 f386 y389 y390 f391 y394 y395 f396 y399 y400 f401 p543 = (F_NH_powerModulo_aet x2 x3 x4 x5 t0_0 t0_1 t1_0 t2_0 t2_1 t3_0 t4_0 t4_1 t5_0 t6_0 t6_1 t7_0 t8_0 t8_1 t9_0 t10_0 t10_1 t11_0 t12_0 t12_1 t13_0 t14_0 t14_1 t15_0 t16_0 t16_1 t17_0) from Eq.trans (by have c485x := c485; rw [e449] at c485x; rw [e544, e473, e472, e471, e470, e469, e468, e467, e466, e465, e464, e463, e462, e461, e460, e459, e458, e457, e456, e455, e454, e453, e452, e451, e450, F_NH_powerModulo_aet_c85.eq_1, if_pos c485x]) hR474)
              have hS561 := (show True ∧ S_NH_powerModulo_aet_c136_7 x2 x3 x4 x5 t0_0 t0_1 t1_0 t2_0 t2_1 t3_0 t4_0 t4_1 t5_0 t6_0 t6_1 t7_0 t8_0 t8_1 t9_0 t10_0 t10_1 t11_0 t12_0 t12_1 t13_0 t14_0 t14_1 t15_0 t16_0 t16_1 t17_0 lx80 lx130 p447 y384 y385 f386 y389 y390 f391 y394 y395 f396 y399 y400 f401 p543 from (by rw [e544, e473, e472, e471, e470, e469, e468, e467, e466, e465, e464, e463, e462, e461, e460, e459, e458, e457, e456, e455, e454, e453, e452, e451, e450]; have h := hS475; rw [S_NH_powerModulo_aet_c85.eq_1] at h; have c485x := c485; rw [e449] at c485x; rw [if_pos c485x] at h; replace h := q_s2 h; with_reducible exact h))
              refine lv_aload_n hx hb d_1_10_139 rfl (lv_at hl 0 rfl) ?_
              refine lv_iload hx hb d_1_10_140 (lv_at hl 4 rfl) ?_
              have ob565 : True ∧ S_NH_keepWhole x5 y498 y499 f500 y518 y519 f520 := (by rw [e559, e558, e557, e547, e546, e545]; have h := hS561; rw [S_NH_powerModulo_aet_c136_7.eq_1] at h; with_reducible exact h.2.1)
              refine q_goxv V (q_runVX (As := [.int x5]) (rest := []) (d := 8) (mc := 1) (ms := 6) (ci := 0) C0 V rfl LV_NH_243 (X_NH_keepWhole l D g q u495  x5 k4 hBk4 yk4 gk4x5 hlt hI y498 y499 hO497 f500 hA501 y518 y519 hO517 f520 hA521 ob565 _) rfl rfl hO116 rfl hl.1 rfl (Nat.le_of_ble_eq_true rfl) ⟨by decide, by decide⟩ ⟨Nat.le_of_ble_eq_true rfl, Nat.le_of_ble_eq_true rfl⟩ d_1_10_142) (fun qx Ex ce u566 H locs hp567 V hce hcv hcl => ?_) (fun u566 H locs hp567 V => ?_)
              ·
                obtain ⟨cx574, hZ9⟩ := hp567
                obtain ⟨he575, hZ9⟩ := hZ9
                obtain ⟨hc576, hZ9⟩ := hZ9
                obtain ⟨hI, hZ9⟩ := hZ9
                obtain ⟨hu577, hZ9⟩ := hZ9
                obtain ⟨y569, hZ9⟩ := hZ9
                obtain ⟨y570, hZ9⟩ := hZ9
                obtain ⟨f571, hZ9⟩ := hZ9
                obtain ⟨hO568, hZ9⟩ := hZ9
                obtain ⟨hA572, hE573⟩ := hZ9
                replace hO568 : u566[k4]? = (some (q k4, .inr (2, [.ref (q (k4 + 1)), .int y569, .int y570])) : Option (Nat × va_E)) := hO568
                replace hA572 : u566[k4 + 1]? = (some (q (k4 + 1), .inl (g 0, (68 : Int32).toNatClampNeg, .inl f571)) : Option (Nat × va_E)) := hA572
                obtain ⟨p578, e579⟩ : ∃ z, z = (F_NH_keepWhole x5 y498 y499 f500 y518 y519 f520) := ⟨_, rfl⟩
                have c580 : ¬ p578.1 = (0 : Int32) := fun z => hc576 (((congrArg (fun z => z.1) (hE573.trans e579.symm)) : cx574 = _).trans z)
                have e581 : y569 = p578.2.1 := congrArg (fun z => z.2.1) (hE573.trans e579.symm)
                have e582 : y570 = p578.2.2.1 := congrArg (fun z => z.2.2.1) (hE573.trans e579.symm)
                have e583 : f571 = p578.2.2.2 := congrArg (fun z => z.2.2.2) (hE573.trans e579.symm)
                replace hO497 := (hu577 _ (by have z0 := yk4; simp only [List.mem_cons, List.not_mem_nil, or_false, not_or]; omega)).trans hO497
                replace hA501 := (hu577 _ (by have z0 := yk4; simp only [List.mem_cons, List.not_mem_nil, or_false, not_or]; omega)).trans hA501
                replace hO502 := (hu577 _ (by have z0 := yk4; simp only [List.mem_cons, List.not_mem_nil, or_false, not_or]; omega)).trans hO502
                replace hA506 := (hu577 _ (by have z0 := yk4; simp only [List.mem_cons, List.not_mem_nil, or_false, not_or]; omega)).trans hA506
                replace hO507 := (hu577 _ (by have z0 := yk4; simp only [List.mem_cons, List.not_mem_nil, or_false, not_or]; omega)).trans hO507
                replace hA511 := (hu577 _ (by have z0 := yk4; simp only [List.mem_cons, List.not_mem_nil, or_false, not_or]; omega)).trans hA511
                replace hO512 := (hu577 _ (by have z0 := yk4; simp only [List.mem_cons, List.not_mem_nil, or_false, not_or]; omega)).trans hO512
                replace hA516 := (hu577 _ (by have z0 := yk4; simp only [List.mem_cons, List.not_mem_nil, or_false, not_or]; omega)).trans hA516
                replace hO383 := (hu577 _ (by have z0 := yk4; simp only [List.mem_cons, List.not_mem_nil, or_false, not_or]; omega)).trans hO383
                replace hA387 := (hu577 _ (by have z0 := yk4; simp only [List.mem_cons, List.not_mem_nil, or_false, not_or]; omega)).trans hA387
                replace hO388 := (hu577 _ (by have z0 := yk4; simp only [List.mem_cons, List.not_mem_nil, or_false, not_or]; omega)).trans hO388
                replace hA392 := (hu577 _ (by have z0 := yk4; simp only [List.mem_cons, List.not_mem_nil, or_false, not_or]; omega)).trans hA392
                replace hO393 := (hu577 _ (by have z0 := yk4; simp only [List.mem_cons, List.not_mem_nil, or_false, not_or]; omega)).trans hO393
                replace hA397 := (hu577 _ (by have z0 := yk4; simp only [List.mem_cons, List.not_mem_nil, or_false, not_or]; omega)).trans hA397
                replace hO398 := (hu577 _ (by have z0 := yk4; simp only [List.mem_cons, List.not_mem_nil, or_false, not_or]; omega)).trans hO398
                replace hA402 := (hu577 _ (by have z0 := yk4; simp only [List.mem_cons, List.not_mem_nil, or_false, not_or]; omega)).trans hA402
                replace hF := q_uc hF hu577 (by simp)
                have hR584 := (show F_NH_powerModulo_aet_c142_8 x2 x3 x4 x5 t0_0 t0_1 t1_0 t2_0 t2_1 t3_0 t4_0 t4_1 t5_0 t6_0 t6_1 t7_0 t8_0 t8_1 t9_0 t10_0 t10_1 t11_0 t12_0 t12_1 t13_0 t14_0 t14_1 t15_0 t16_0 t16_1 t17_0 lx80 lx130 p447 y384 y385 f386 y389 y390 f391 y394 y395 f396 y399 y400 f401 p543 y498 y499 f500 y503 y504 f505 y508 y509 f510 y513 y514 f515 p578 = (F_NH_powerModulo_aet x2 x3 x4 x5 t0_0 t0_1 t1_0 t2_0 t2_1 t3_0 t4_0 t4_1 t5_0 t6_0 t6_1 t7_0 t8_0 t8_1 t9_0 t10_0 t10_1 t11_0 t12_0 t12_1 t13_0 t14_0 t14_1 t15_0 t16_0 t16_1 t17_0) from Eq.trans (by rw [e579, e559, e558, e557, e556, e555, e554, e553, e552, e551, e550, e549, e548, e547, e546, e545, F_NH_powerModulo_aet_c136_7.eq_1]) hR560)
                have hS585 := (show True ∧ S_NH_powerModulo_aet_c142_8 x2 x3 x4 x5 t0_0 t0_1 t1_0 t2_0 t2_1 t3_0 t4_0 t4_1 t5_0 t6_0 t6_1 t7_0 t8_0 t8_1 t9_0 t10_0 t10_1 t11_0 t12_0 t12_1 t13_0 t14_0 t14_1 t15_0 t16_0 t16_1 t17_0 lx80 lx130 p447 y384 y385 f386 y389 y390 f391 y394 y395 f396 y399 y400 f401 p543 y498 y499 f500 y503 y504 f505 y508 y509 f510 y513 y514 f515 p578 from (by rw [e579, e559, e558, e557, e556, e555, e554, e553, e552, e551, e550, e549, e548, e547, e546, e545]; have h := hS561; rw [S_NH_powerModulo_aet_c136_7.eq_1] at h; replace h := q_s2 h; with_reducible exact h))
                exact q_outT hno C0 V (⟨p578.1, (he575.trans (congrArg qE ((congrArg (fun z => z.1) (hE573.trans e579.symm)) : cx574 = _))), c580, hI, hF, y498, y499, f500, y503, y504, f505, y508, y509, f510, y513, y514, f515, y384, y385, f386, y389, y390, f391, y394, y395, f396, y399, y400, f401, y569, y570, f571, hO497, hA501, hO502, hA506, hO507, hA511, hO512, hA516, hO383, hA387, hO388, hA392, hO393, hA397, hO398, hA402, hO568, hA572, (show (p578.1, y498, y499, f500, y503, y504, f505, y508, y509, f510, y513, y514, f515, y384, y385, f386, y389, y390, f391, y394, y395, f396, y399, y400, f401, y569, y570, f571) = (F_NH_powerModulo_aet x2 x3 x4 x5 t0_0 t0_1 t1_0 t2_0 t2_1 t3_0 t4_0 t4_1 t5_0 t6_0 t6_1 t7_0 t8_0 t8_1 t9_0 t10_0 t10_1 t11_0 t12_0 t12_1 t13_0 t14_0 t14_1 t15_0 t16_0 t16_1 t17_0) from Eq.trans (by rw [e583, e582, e581, F_NH_powerModulo_aet_c142_8.eq_1, if_neg c580]) hR584)⟩) hce hcv hcl (Nat.le_of_ble_eq_true rfl) (Nat.le_of_ble_eq_true rfl)
              ·
                obtain ⟨hI, hZ9⟩ := hp567
                obtain ⟨hu604, hZ9⟩ := hZ9
                obtain ⟨y590, hZ9⟩ := hZ9
                obtain ⟨y591, hZ9⟩ := hZ9
                obtain ⟨f592, hZ9⟩ := hZ9
                obtain ⟨hO589, hZ9⟩ := hZ9
                obtain ⟨hA593, hZ9⟩ := hZ9
                obtain ⟨b594, hZ9⟩ := hZ9
                obtain ⟨b595, hZ9⟩ := hZ9
                obtain ⟨b596, hZ9⟩ := hZ9
                obtain ⟨b597, hZ9⟩ := hZ9
                obtain ⟨b598, hZ9⟩ := hZ9
                obtain ⟨b599, hZ9⟩ := hZ9
                obtain ⟨b600, hZ9⟩ := hZ9
                obtain ⟨b601, hZ9⟩ := hZ9
                obtain ⟨b602, hE603⟩ := hZ9
                replace hO589 : u566[k4]? = (some (q k4, .inr (2, [.ref (q (k4 + 1)), .int y590, .int y591])) : Option (Nat × va_E)) := hO589
                replace hA593 : u566[k4 + 1]? = (some (q (k4 + 1), .inl (g 0, (68 : Int32).toNatClampNeg, .inl f592)) : Option (Nat × va_E)) := hA593
                obtain ⟨p578, e579⟩ : ∃ z, z = (F_NH_keepWhole x5 y498 y499 f500 y518 y519 f520) := ⟨_, rfl⟩
                have c580 : p578.1 = (0 : Int32) := ((congrArg (fun z => z.1) (hE603.trans e579.symm)) : (0 : Int32) = _).symm
                have e606 : y590 = p578.2.1 := congrArg (fun z => z.2.1) (hE603.trans e579.symm)
                have e607 : y591 = p578.2.2.1 := congrArg (fun z => z.2.2.1) (hE603.trans e579.symm)
                have e608 : f592 = p578.2.2.2 := congrArg (fun z => z.2.2.2) (hE603.trans e579.symm)
                replace b594 : q_F (0 ≤ y590.toInt) := b594
                replace b595 : q_F (y590.toInt ≤ 68) := b595
                replace b596 : q_F (x5.toInt ≤ y590.toInt + 9) := b596
                replace b597 : q_F (y590.toInt ≤ x5.toInt + 68) := b597
                replace b598 : q_F (y590.toInt ≤ y498.toInt) := b598
                replace b599 : q_F (x5.toInt ≤ y591.toInt + 9) := b599
                replace b600 : q_F (y591.toInt ≤ x5.toInt + 1) := b600
                replace b601 : q_F (y499.toInt ≤ y591.toInt) := b601
                replace b602 : q_F (y591.toInt ≤ y499.toInt) := b602
                replace hO497 := (hu604 _ (by have z0 := yk4; simp only [List.mem_cons, List.not_mem_nil, or_false, not_or]; omega)).trans hO497
                replace hA501 := (hu604 _ (by have z0 := yk4; simp only [List.mem_cons, List.not_mem_nil, or_false, not_or]; omega)).trans hA501
                replace hO502 := (hu604 _ (by have z0 := yk4; simp only [List.mem_cons, List.not_mem_nil, or_false, not_or]; omega)).trans hO502
                replace hA506 := (hu604 _ (by have z0 := yk4; simp only [List.mem_cons, List.not_mem_nil, or_false, not_or]; omega)).trans hA506
                replace hO507 := (hu604 _ (by have z0 := yk4; simp only [List.mem_cons, List.not_mem_nil, or_false, not_or]; omega)).trans hO507
                replace hA511 := (hu604 _ (by have z0 := yk4; simp only [List.mem_cons, List.not_mem_nil, or_false, not_or]; omega)).trans hA511
                replace hO512 := (hu604 _ (by have z0 := yk4; simp only [List.mem_cons, List.not_mem_nil, or_false, not_or]; omega)).trans hO512
                replace hA516 := (hu604 _ (by have z0 := yk4; simp only [List.mem_cons, List.not_mem_nil, or_false, not_or]; omega)).trans hA516
                replace hO383 := (hu604 _ (by have z0 := yk4; simp only [List.mem_cons, List.not_mem_nil, or_false, not_or]; omega)).trans hO383
                replace hA387 := (hu604 _ (by have z0 := yk4; simp only [List.mem_cons, List.not_mem_nil, or_false, not_or]; omega)).trans hA387
                replace hO388 := (hu604 _ (by have z0 := yk4; simp only [List.mem_cons, List.not_mem_nil, or_false, not_or]; omega)).trans hO388
                replace hA392 := (hu604 _ (by have z0 := yk4; simp only [List.mem_cons, List.not_mem_nil, or_false, not_or]; omega)).trans hA392
                replace hO393 := (hu604 _ (by have z0 := yk4; simp only [List.mem_cons, List.not_mem_nil, or_false, not_or]; omega)).trans hO393
                replace hA397 := (hu604 _ (by have z0 := yk4; simp only [List.mem_cons, List.not_mem_nil, or_false, not_or]; omega)).trans hA397
                replace hO398 := (hu604 _ (by have z0 := yk4; simp only [List.mem_cons, List.not_mem_nil, or_false, not_or]; omega)).trans hO398
                replace hA402 := (hu604 _ (by have z0 := yk4; simp only [List.mem_cons, List.not_mem_nil, or_false, not_or]; omega)).trans hA402
                replace hF := q_uc hF hu604 (by simp)
                have hR584 := (show F_NH_powerModulo_aet_c142_8 x2 x3 x4 x5 t0_0 t0_1 t1_0 t2_0 t2_1 t3_0 t4_0 t4_1 t5_0 t6_0 t6_1 t7_0 t8_0 t8_1 t9_0 t10_0 t10_1 t11_0 t12_0 t12_1 t13_0 t14_0 t14_1 t15_0 t16_0 t16_1 t17_0 lx80 lx130 p447 y384 y385 f386 y389 y390 f391 y394 y395 f396 y399 y400 f401 p543 y498 y499 f500 y503 y504 f505 y508 y509 f510 y513 y514 f515 p578 = (F_NH_powerModulo_aet x2 x3 x4 x5 t0_0 t0_1 t1_0 t2_0 t2_1 t3_0 t4_0 t4_1 t5_0 t6_0 t6_1 t7_0 t8_0 t8_1 t9_0 t10_0 t10_1 t11_0 t12_0 t12_1 t13_0 t14_0 t14_1 t15_0 t16_0 t16_1 t17_0) from Eq.trans (by rw [e579, e559, e558, e557, e556, e555, e554, e553, e552, e551, e550, e549, e548, e547, e546, e545, F_NH_powerModulo_aet_c136_7.eq_1]) hR560)
                have hS585 := (show True ∧ S_NH_powerModulo_aet_c142_8 x2 x3 x4 x5 t0_0 t0_1 t1_0 t2_0 t2_1 t3_0 t4_0 t4_1 t5_0 t6_0 t6_1 t7_0 t8_0 t8_1 t9_0 t10_0 t10_1 t11_0 t12_0 t12_1 t13_0 t14_0 t14_1 t15_0 t16_0 t16_1 t17_0 lx80 lx130 p447 y384 y385 f386 y389 y390 f391 y394 y395 f396 y399 y400 f401 p543 y498 y499 f500 y503 y504 f505 y508 y509 f510 y513 y514 f515 p578 from (by rw [e579, e559, e558, e557, e556, e555, e554, e553, e552, e551, e550, e549, e548, e547, e546, e545]; have h := hS561; rw [S_NH_powerModulo_aet_c136_7.eq_1] at h; replace h := q_s2 h; with_reducible exact h))
                exact q_retX (q_retv C0 V (⟨hI, hF, y498, y499, f500, y503, y504, f505, y508, y509, f510, y513, y514, f515, y384, y385, f386, y389, y390, f391, y394, y395, f396, y399, y400, f401, y590, y591, f592, hO497, hA501, hO502, hA506, hO507, hA511, hO512, hA516, hO383, hA387, hO388, hA392, hO393, hA397, hO398, hA402, hO589, hA593, (show 0 ≤ y498.toInt from (by have t1 : 0 ≤ y504.toInt := b522; have t2 : y504.toInt ≤ y498.toInt := b525; omega)), (show y498.toInt ≤ 220 from (by have t1 : y504.toInt ≤ 0 := b523; have t2 : y498.toInt ≤ y508.toInt := b526; have t3 : y508.toInt ≤ y504.toInt + 220 := b531; omega)), (show 0 ≤ y499.toInt from (by have t1 : 0 ≤ y504.toInt := b522; have t2 : y509.toInt ≤ y499.toInt := b527; have t3 : y504.toInt ≤ y509.toInt := b533; omega)), (show y499.toInt ≤ 1 from (by have t1 : y504.toInt ≤ 0 := b523; have t2 : y499.toInt ≤ y509.toInt := b528; have t3 : y509.toInt ≤ y504.toInt + 1 := b532; omega)), (show 0 ≤ y503.toInt from (by have t1 : 0 ≤ y504.toInt := b522; have t2 : y504.toInt ≤ y503.toInt := b529; omega)), (show y503.toInt ≤ 220 from (by have t1 : y504.toInt ≤ 0 := b523; have t2 : y503.toInt ≤ y504.toInt + 220 := b530; omega)), (show 0 ≤ y504.toInt from (by first | with_reducible exact q_fe b522 | (have t1 : 0 ≤ y504.toInt := b522; omega))), (show y504.toInt ≤ 0 from (by first | with_reducible exact q_fe b523 | (have t1 : y504.toInt ≤ 0 := b523; omega))), (show 0 ≤ y508.toInt from (by have t1 : 0 ≤ y504.toInt := b522; have t2 : y504.toInt ≤ y498.toInt := b525; have t3 : y498.toInt ≤ y508.toInt := b526; omega)), (show y508.toInt ≤ 220 from (by have t1 : y504.toInt ≤ 0 := b523; have t2 : y508.toInt ≤ y504.toInt + 220 := b531; omega)), (show 0 ≤ y509.toInt from (by have t1 : 0 ≤ y504.toInt := b522; have t2 : y504.toInt ≤ y509.toInt := b533; omega)), (show y509.toInt ≤ 1 from (by have t1 : y504.toInt ≤ 0 := b523; have t2 : y509.toInt ≤ y504.toInt + 1 := b532; omega)), (show 0 ≤ y513.toInt from (by have t1 : 0 ≤ y504.toInt := b522; have t2 : y504.toInt ≤ y513.toInt := b535; omega)), (show y513.toInt ≤ 220 from (by have t1 : y504.toInt ≤ 0 := b523; have t2 : y513.toInt ≤ y504.toInt + 220 := b534; omega)), (show 0 ≤ y514.toInt from (by have t1 : 0 ≤ y504.toInt := b522; have t2 : y504.toInt ≤ y514.toInt := b537; omega)), (show y514.toInt ≤ 1 from (by have t1 : y504.toInt ≤ 0 := b523; have t2 : y514.toInt ≤ y504.toInt + 1 := b536; omega)), (show 0 ≤ y384.toInt from (by first | with_reducible exact q_fe b422 | (have t1 : 0 ≤ y384.toInt := b422; omega))), (show y384.toInt ≤ 220 from (by first | with_reducible exact q_fe b423 | (have t1 : y384.toInt ≤ 220 := b423; omega))), (show 0 ≤ y385.toInt from (by first | with_reducible exact q_fe b424 | (have t1 : 0 ≤ y385.toInt := b424; omega))), (show y385.toInt ≤ 1 from (by have t1 : 0 ≤ t16_1.toInt ∧ t16_1.toInt ≤ 1 := btt16_1; have t2 : y385.toInt ≤ t16_1.toInt := b441; omega)), (show 0 ≤ y389.toInt from (by first | with_reducible exact q_fe b425 | (have t1 : 0 ≤ y389.toInt := b425; omega))), (show y389.toInt ≤ 220 from (by first | with_reducible exact q_fe b426 | (have t1 : y389.toInt ≤ 220 := b426; omega))), (show 0 ≤ y390.toInt from (by first | with_reducible exact q_fe b427 | (have t1 : 0 ≤ y390.toInt := b427; omega))), (show y390.toInt ≤ 1 from (by have t1 : 0 ≤ t16_1.toInt ∧ t16_1.toInt ≤ 1 := btt16_1; have t2 : y390.toInt ≤ t16_1.toInt := b442; omega)), (show 0 ≤ y394.toInt from (by first | with_reducible exact q_fe b428 | (have t1 : 0 ≤ y394.toInt := b428; omega))), (show y394.toInt ≤ 220 from (by first | with_reducible exact q_fe b429 | (have t1 : y394.toInt ≤ 220 := b429; omega))), (show 0 ≤ y395.toInt from (by first | with_reducible exact q_fe b430 | (have t1 : 0 ≤ y395.toInt := b430; omega))), (show y395.toInt ≤ 1 from (by first | with_reducible exact q_fe b431 | (have t1 : y395.toInt ≤ 1 := b431; omega))), (show 0 ≤ y399.toInt from (by first | with_reducible exact q_fe b432 | (have t1 : 0 ≤ y399.toInt := b432; omega))), (show y399.toInt ≤ 220 from (by first | with_reducible exact q_fe b433 | (have t1 : y399.toInt ≤ 220 := b433; omega))), (show 0 ≤ y400.toInt from (by first | with_reducible exact q_fe b434 | (have t1 : 0 ≤ y400.toInt := b434; omega))), (show y400.toInt ≤ 1 from (by first | with_reducible exact q_fe b435 | (have t1 : y400.toInt ≤ 1 := b435; omega))), (show 0 ≤ y590.toInt from (by first | with_reducible exact q_fe b594 | (have t1 : 0 ≤ y590.toInt := b594; omega))), (show y590.toInt ≤ 68 from (by first | with_reducible exact q_fe b595 | (have t1 : y590.toInt ≤ 68 := b595; omega))), (show x2.toInt ≤ y504.toInt + 9 from (by have t1 : x2.toInt ≤ 9 := ob357; have t2 : 0 ≤ y504.toInt := b522; omega)), (show y504.toInt ≤ x2.toInt from (by have t1 : 0 ≤ x2.toInt := ob356; have t2 : y504.toInt ≤ 0 := b523; omega)), (show x3.toInt ≤ y504.toInt + 9 from (by have t1 : x3.toInt ≤ 9 := ob168; have t2 : 0 ≤ y504.toInt := b522; omega)), (show y504.toInt ≤ x3.toInt from (by have t1 : 0 ≤ x3.toInt := ob167; have t2 : y504.toInt ≤ 0 := b523; omega)), (show x4.toInt ≤ y504.toInt + 9 from (by have t1 : x4.toInt ≤ 9 := ob119; have t2 : 0 ≤ y504.toInt := b522; omega)), (show y504.toInt ≤ x4.toInt from (by have t1 : 0 ≤ x4.toInt := ob118; have t2 : y504.toInt ≤ 0 := b523; omega)), (show x5.toInt ≤ y590.toInt + 9 from (by first | with_reducible exact q_fe b596 | (have t1 : x5.toInt ≤ y590.toInt + 9 := b596; omega))), (show y590.toInt ≤ x5.toInt + 68 from (by first | with_reducible exact q_fe b597 | (have t1 : y590.toInt ≤ x5.toInt + 68 := b597; omega))), (show x5.toInt ≤ y591.toInt + 9 from (by first | with_reducible exact q_fe b599 | (have t1 : x5.toInt ≤ y591.toInt + 9 := b599; omega))), (show y591.toInt ≤ x5.toInt + 1 from (by first | with_reducible exact q_fe b600 | (have t1 : y591.toInt ≤ x5.toInt + 1 := b600; omega))), (show y498.toInt ≤ y508.toInt from (by first | with_reducible exact q_fe b526 | (have t1 : y498.toInt ≤ y508.toInt := b526; omega))), (show y590.toInt ≤ y498.toInt from (by first | with_reducible exact q_fe b598 | (have t1 : y590.toInt ≤ y498.toInt := b598; omega))), (show y591.toInt ≤ y499.toInt from (by first | with_reducible exact q_fe b602 | (have t1 : y591.toInt ≤ y499.toInt := b602; omega))), (show y499.toInt ≤ y591.toInt from (by first | with_reducible exact q_fe b601 | (have t1 : y499.toInt ≤ y591.toInt := b601; omega))), (show y591.toInt ≤ y509.toInt from (by have t1 : y499.toInt ≤ y509.toInt := b528; have t2 : y591.toInt ≤ y499.toInt := b602; omega)), (show y509.toInt ≤ y591.toInt from (by have t1 : y509.toInt ≤ y499.toInt := b527; have t2 : y499.toInt ≤ y591.toInt := b601; omega)), (show ((0 : Int32), y498, y499, f500, y503, y504, f505, y508, y509, f510, y513, y514, f515, y384, y385, f386, y389, y390, f391, y394, y395, f396, y399, y400, f401, y590, y591, f592) = (F_NH_powerModulo_aet x2 x3 x4 x5 t0_0 t0_1 t1_0 t2_0 t2_1 t3_0 t4_0 t4_1 t5_0 t6_0 t6_1 t7_0 t8_0 t8_1 t9_0 t10_0 t10_1 t11_0 t12_0 t12_1 t13_0 t14_0 t14_1 t15_0 t16_0 t16_1 t17_0) from Eq.trans (by rw [e608, e607, e606, F_NH_powerModulo_aet_c142_8.eq_1, if_pos c580]) hR584)⟩) d_1_10_145)
      ·
        intro J149
        refine lv_if_le (tgt := 53) hx hb d_1_10_46 (by decide) (fun c609 => ?_) (fun c609 => ?_)
        ·
          refine lv_iconst (v := 0) hx hb d_1_10_53 (by decide) ?_
          exact J149 ((0 : Int32)) _ _ _ ws ⟨(show q_F (0 ≤ 0) from (show 0 ≤ 0 from by omega)), (show q_F (0 ≤ 1) from (show 0 ≤ 1 from by omega)), V, q_lw hl (q_lw1 0 rfl (q_lw1 1 rfl (q_lw1 2 rfl (q_lw1 3 rfl (q_lw1 4 rfl q_lw0))))), (show F_NH_powerModulo_aet_J54 x2 x3 x4 x5 t0_0 t0_1 t1_0 t2_0 t2_1 t3_0 t4_0 t4_1 t5_0 t6_0 t6_1 t7_0 t8_0 t8_1 t9_0 t10_0 t10_1 t11_0 t12_0 t12_1 t13_0 t14_0 t14_1 t15_0 t16_0 t16_1 t17_0 lx80 0 = (F_NH_powerModulo_aet x2 x3 x4 x5 t0_0 t0_1 t1_0 t2_0 t2_1 t3_0 t4_0 t4_1 t5_0 t6_0 t6_1 t7_0 t8_0 t8_1 t9_0 t10_0 t10_1 t11_0 t12_0 t12_1 t13_0 t14_0 t14_1 t15_0 t16_0 t16_1 t17_0) from Eq.trans (by have c609x := c609; rw [e129] at c609x; rw [F_NH_powerModulo_aet_J34.eq_1, if_pos c113, if_pos c609x]) hR102), (show True ∧ S_NH_powerModulo_aet_J54 x2 x3 x4 x5 t0_0 t0_1 t1_0 t2_0 t2_1 t3_0 t4_0 t4_1 t5_0 t6_0 t6_1 t7_0 t8_0 t8_1 t9_0 t10_0 t10_1 t11_0 t12_0 t12_1 t13_0 t14_0 t14_1 t15_0 t16_0 t16_1 t17_0 lx80 0 from (by have h := hS103; rw [S_NH_powerModulo_aet_J34.eq_1] at h; rw [if_pos c113] at h; replace h := q_s2 h; replace h := q_s2 h; have c609x := c609; rw [e129] at c609x; rw [if_pos c609x] at h; with_reducible exact h))⟩
        ·
          refine lv_iconst (v := 1) hx hb d_1_10_49 (by decide) ?_
          refine lv_goto (tgt := 54) hx hb d_1_10_50 (by decide) ?_
          exact J149 ((1 : Int32)) _ _ _ ws ⟨(show q_F (0 ≤ 1) from (show 0 ≤ 1 from by omega)), (show q_F (1 ≤ 1) from (show 1 ≤ 1 from by omega)), V, q_lw hl (q_lw1 0 rfl (q_lw1 1 rfl (q_lw1 2 rfl (q_lw1 3 rfl (q_lw1 4 rfl q_lw0))))), (show F_NH_powerModulo_aet_J54 x2 x3 x4 x5 t0_0 t0_1 t1_0 t2_0 t2_1 t3_0 t4_0 t4_1 t5_0 t6_0 t6_1 t7_0 t8_0 t8_1 t9_0 t10_0 t10_1 t11_0 t12_0 t12_1 t13_0 t14_0 t14_1 t15_0 t16_0 t16_1 t17_0 lx80 1 = (F_NH_powerModulo_aet x2 x3 x4 x5 t0_0 t0_1 t1_0 t2_0 t2_1 t3_0 t4_0 t4_1 t5_0 t6_0 t6_1 t7_0 t8_0 t8_1 t9_0 t10_0 t10_1 t11_0 t12_0 t12_1 t13_0 t14_0 t14_1 t15_0 t16_0 t16_1 t17_0) from Eq.trans (by have c609x := c609; rw [e129] at c609x; rw [F_NH_powerModulo_aet_J34.eq_1, if_pos c113, if_neg c609x]) hR102), (show True ∧ S_NH_powerModulo_aet_J54 x2 x3 x4 x5 t0_0 t0_1 t1_0 t2_0 t2_1 t3_0 t4_0 t4_1 t5_0 t6_0 t6_1 t7_0 t8_0 t8_1 t9_0 t10_0 t10_1 t11_0 t12_0 t12_1 t13_0 t14_0 t14_1 t15_0 t16_0 t16_1 t17_0 lx80 1 from (by have h := hS103; rw [S_NH_powerModulo_aet_J34.eq_1] at h; rw [if_pos c113] at h; replace h := q_s2 h; replace h := q_s2 h; have c609x := c609; rw [e129] at c609x; rw [if_neg c609x] at h; with_reducible exact h))⟩
  ·
    intro J99
    refine q_join (X := Unit) (fun z H locs ls _ => q_Wd D g (va_A ws sz) s ws H locs ∧ lv_has ls 5 [(0, .ref (q 0)), (1, .int x2), (2, .int x3), (3, .int x4), (4, .int x5)] ∧ F_NH_powerModulo_aet_J33 x2 x3 x4 x5 t0_0 t0_1 t1_0 t2_0 t2_1 t3_0 t4_0 t4_1 t5_0 t6_0 t6_1 t7_0 t8_0 t8_1 t9_0 t10_0 t10_1 t11_0 t12_0 t12_1 t13_0 t14_0 t14_1 t15_0 t16_0 t16_1 t17_0 = (F_NH_powerModulo_aet x2 x3 x4 x5 t0_0 t0_1 t1_0 t2_0 t2_1 t3_0 t4_0 t4_1 t5_0 t6_0 t6_1 t7_0 t8_0 t8_1 t9_0 t10_0 t10_1 t11_0 t12_0 t12_1 t13_0 t14_0 t14_1 t15_0 t16_0 t16_1 t17_0) ∧ True ∧ S_NH_powerModulo_aet_J33 x2 x3 x4 x5 t0_0 t0_1 t1_0 t2_0 t2_1 t3_0 t4_0 t4_1 t5_0 t6_0 t6_1 t7_0 t8_0 t8_1 t9_0 t10_0 t10_1 t11_0 t12_0 t12_1 t13_0 t14_0 t14_1 t15_0 t16_0 t16_1 t17_0) (fun z => []) 33 0 0 ?_ ?_
    ·
      rintro _ H locs ls _ ⟨V, hl, hR631, hS632⟩
      replace hl : lv_has ls 5 [(0, .ref (q 0)), (1, .int x2), (2, .int x3), (3, .int x4), (4, .int x5)] := hl
      refine lv_iconst (v := 0) hx hb d_1_10_33 (by decide) ?_
      exact J99 ((0 : Int32)) _ _ _ ws ⟨(show q_F (0 ≤ 0) from (show 0 ≤ 0 from by omega)), (show q_F (0 ≤ 1) from (show 0 ≤ 1 from by omega)), V, q_lw hl (q_lw1 0 rfl (q_lw1 1 rfl (q_lw1 2 rfl (q_lw1 3 rfl (q_lw1 4 rfl q_lw0))))), (show F_NH_powerModulo_aet_J34 x2 x3 x4 x5 t0_0 t0_1 t1_0 t2_0 t2_1 t3_0 t4_0 t4_1 t5_0 t6_0 t6_1 t7_0 t8_0 t8_1 t9_0 t10_0 t10_1 t11_0 t12_0 t12_1 t13_0 t14_0 t14_1 t15_0 t16_0 t16_1 t17_0 0 = (F_NH_powerModulo_aet x2 x3 x4 x5 t0_0 t0_1 t1_0 t2_0 t2_1 t3_0 t4_0 t4_1 t5_0 t6_0 t6_1 t7_0 t8_0 t8_1 t9_0 t10_0 t10_1 t11_0 t12_0 t12_1 t13_0 t14_0 t14_1 t15_0 t16_0 t16_1 t17_0) from Eq.trans (by rw [F_NH_powerModulo_aet_J33.eq_1]) hR631), (show True ∧ S_NH_powerModulo_aet_J34 x2 x3 x4 x5 t0_0 t0_1 t1_0 t2_0 t2_1 t3_0 t4_0 t4_1 t5_0 t6_0 t6_1 t7_0 t8_0 t8_1 t9_0 t10_0 t10_1 t11_0 t12_0 t12_1 t13_0 t14_0 t14_1 t15_0 t16_0 t16_1 t17_0 0 from (by have h := hS632; rw [S_NH_powerModulo_aet_J33.eq_1] at h; with_reducible exact h))⟩
    ·
      intro J630
      refine lv_if_eq (tgt := 33) hx hb d_1_10_4 (by decide) (fun c636 => ?_) (fun c636 => ?_)
      ·
        exact J630 (()) _ _ _ ws ⟨V, q_lw hl (q_lw1 0 rfl (q_lw1 1 rfl (q_lw1 2 rfl (q_lw1 3 rfl (q_lw1 4 rfl q_lw0))))), (show F_NH_powerModulo_aet_J33 x2 x3 x4 x5 t0_0 t0_1 t1_0 t2_0 t2_1 t3_0 t4_0 t4_1 t5_0 t6_0 t6_1 t7_0 t8_0 t8_1 t9_0 t10_0 t10_1 t11_0 t12_0 t12_1 t13_0 t14_0 t14_1 t15_0 t16_0 t16_1 t17_0 = (F_NH_powerModulo_aet x2 x3 x4 x5 t0_0 t0_1 t1_0 t2_0 t2_1 t3_0 t4_0 t4_1 t5_0 t6_0 t6_1 t7_0 t8_0 t8_1 t9_0 t10_0 t10_1 t11_0 t12_0 t12_1 t13_0 t14_0 t14_1 t15_0 t16_0 t16_1 t17_0) from (by have c636x := c636; rw [e79] at c636x; rw [F_NH_powerModulo_aet.eq_1, if_pos c636x])), (show True ∧ S_NH_powerModulo_aet_J33 x2 x3 x4 x5 t0_0 t0_1 t1_0 t2_0 t2_1 t3_0 t4_0 t4_1 t5_0 t6_0 t6_1 t7_0 t8_0 t8_1 t9_0 t10_0 t10_1 t11_0 t12_0 t12_1 t13_0 t14_0 t14_1 t15_0 t16_0 t16_1 t17_0 from (by have h := hS; rw [S_NH_powerModulo_aet.eq_1] at h; have c636x := c636; rw [e79] at c636x; rw [if_pos c636x] at h; with_reducible exact h))⟩
      ·
        refine lv_iload_n hx hb d_1_10_7 rfl (lv_at hl 2 rfl) ?_
        refine q_goi V (q_runS (As := [.int x3]) (rest := []) (d := 1) (mc := 0) (ms := 0) C0 V rfl LS_NH_212 (X_NH_isRegister l D g q ws  x3 hI   _) rfl hl.1 rfl (Nat.le_of_ble_eq_true rfl) ⟨by decide, by decide⟩ ⟨Nat.le_of_ble_eq_true rfl, Nat.le_of_ble_eq_true rfl⟩ d_1_10_8) (fun a641 u639 H locs hp640 V => ?_)
        obtain ⟨rfl, b642, b643, hE644⟩ := hp640
        have e645 : a641 = (F_NH_isRegister x3) := hE644
        clear b642
        clear b643
        refine lv_if_eq (tgt := 33) hx hb d_1_10_11 (by decide) (fun c646 => ?_) (fun c646 => ?_)
        ·
          exact J630 (()) _ _ _ ws ⟨V, q_lw hl (q_lw1 0 rfl (q_lw1 1 rfl (q_lw1 2 rfl (q_lw1 3 rfl (q_lw1 4 rfl q_lw0))))), (show F_NH_powerModulo_aet_J33 x2 x3 x4 x5 t0_0 t0_1 t1_0 t2_0 t2_1 t3_0 t4_0 t4_1 t5_0 t6_0 t6_1 t7_0 t8_0 t8_1 t9_0 t10_0 t10_1 t11_0 t12_0 t12_1 t13_0 t14_0 t14_1 t15_0 t16_0 t16_1 t17_0 = (F_NH_powerModulo_aet x2 x3 x4 x5 t0_0 t0_1 t1_0 t2_0 t2_1 t3_0 t4_0 t4_1 t5_0 t6_0 t6_1 t7_0 t8_0 t8_1 t9_0 t10_0 t10_1 t11_0 t12_0 t12_1 t13_0 t14_0 t14_1 t15_0 t16_0 t16_1 t17_0) from (by have c636x := c636; rw [e79] at c636x; have c646x := c646; rw [e645] at c646x; rw [F_NH_powerModulo_aet.eq_1, if_neg c636x, if_pos c646x])), (show True ∧ S_NH_powerModulo_aet_J33 x2 x3 x4 x5 t0_0 t0_1 t1_0 t2_0 t2_1 t3_0 t4_0 t4_1 t5_0 t6_0 t6_1 t7_0 t8_0 t8_1 t9_0 t10_0 t10_1 t11_0 t12_0 t12_1 t13_0 t14_0 t14_1 t15_0 t16_0 t16_1 t17_0 from (by have h := hS; rw [S_NH_powerModulo_aet.eq_1] at h; have c636x := c636; rw [e79] at c636x; rw [if_neg c636x] at h; have c646x := c646; rw [e645] at c646x; rw [if_pos c646x] at h; with_reducible exact h))⟩
        ·
          refine lv_iload_n hx hb d_1_10_14 rfl (lv_at hl 3 rfl) ?_
          refine q_goi V (q_runS (As := [.int x4]) (rest := []) (d := 1) (mc := 0) (ms := 0) C0 V rfl LS_NH_212 (X_NH_isRegister l D g q ws  x4 hI   _) rfl hl.1 rfl (Nat.le_of_ble_eq_true rfl) ⟨by decide, by decide⟩ ⟨Nat.le_of_ble_eq_true rfl, Nat.le_of_ble_eq_true rfl⟩ d_1_10_15) (fun a651 u649 H locs hp650 V => ?_)
          obtain ⟨rfl, b652, b653, hE654⟩ := hp650
          have e655 : a651 = (F_NH_isRegister x4) := hE654
          clear b652
          clear b653
          refine lv_if_eq (tgt := 33) hx hb d_1_10_18 (by decide) (fun c656 => ?_) (fun c656 => ?_)
          ·
            exact J630 (()) _ _ _ ws ⟨V, q_lw hl (q_lw1 0 rfl (q_lw1 1 rfl (q_lw1 2 rfl (q_lw1 3 rfl (q_lw1 4 rfl q_lw0))))), (show F_NH_powerModulo_aet_J33 x2 x3 x4 x5 t0_0 t0_1 t1_0 t2_0 t2_1 t3_0 t4_0 t4_1 t5_0 t6_0 t6_1 t7_0 t8_0 t8_1 t9_0 t10_0 t10_1 t11_0 t12_0 t12_1 t13_0 t14_0 t14_1 t15_0 t16_0 t16_1 t17_0 = (F_NH_powerModulo_aet x2 x3 x4 x5 t0_0 t0_1 t1_0 t2_0 t2_1 t3_0 t4_0 t4_1 t5_0 t6_0 t6_1 t7_0 t8_0 t8_1 t9_0 t10_0 t10_1 t11_0 t12_0 t12_1 t13_0 t14_0 t14_1 t15_0 t16_0 t16_1 t17_0) from (by have c636x := c636; rw [e79] at c636x; have c646x := c646; rw [e645] at c646x; have c656x := c656; rw [e655] at c656x; rw [F_NH_powerModulo_aet.eq_1, if_neg c636x, if_neg c646x, if_pos c656x])), (show True ∧ S_NH_powerModulo_aet_J33 x2 x3 x4 x5 t0_0 t0_1 t1_0 t2_0 t2_1 t3_0 t4_0 t4_1 t5_0 t6_0 t6_1 t7_0 t8_0 t8_1 t9_0 t10_0 t10_1 t11_0 t12_0 t12_1 t13_0 t14_0 t14_1 t15_0 t16_0 t16_1 t17_0 from (by have h := hS; rw [S_NH_powerModulo_aet.eq_1] at h; have c636x := c636; rw [e79] at c636x; rw [if_neg c636x] at h; have c646x := c646; rw [e645] at c646x; rw [if_neg c646x] at h; have c656x := c656; rw [e655] at c656x; rw [if_pos c656x] at h; with_reducible exact h))⟩
          ·
            refine lv_iload hx hb d_1_10_21 (lv_at hl 4 rfl) ?_
            refine q_goi V (q_runS (As := [.int x5]) (rest := []) (d := 1) (mc := 0) (ms := 0) C0 V rfl LS_NH_212 (X_NH_isRegister l D g q ws  x5 hI   _) rfl hl.1 rfl (Nat.le_of_ble_eq_true rfl) ⟨by decide, by decide⟩ ⟨Nat.le_of_ble_eq_true rfl, Nat.le_of_ble_eq_true rfl⟩ d_1_10_23) (fun a661 u659 H locs hp660 V => ?_)
            obtain ⟨rfl, b662, b663, hE664⟩ := hp660
            have e665 : a661 = (F_NH_isRegister x5) := hE664
            clear b662
            clear b663
            refine lv_if_eq (tgt := 33) hx hb d_1_10_26 (by decide) (fun c666 => ?_) (fun c666 => ?_)
            ·
              exact J630 (()) _ _ _ ws ⟨V, q_lw hl (q_lw1 0 rfl (q_lw1 1 rfl (q_lw1 2 rfl (q_lw1 3 rfl (q_lw1 4 rfl q_lw0))))), (show F_NH_powerModulo_aet_J33 x2 x3 x4 x5 t0_0 t0_1 t1_0 t2_0 t2_1 t3_0 t4_0 t4_1 t5_0 t6_0 t6_1 t7_0 t8_0 t8_1 t9_0 t10_0 t10_1 t11_0 t12_0 t12_1 t13_0 t14_0 t14_1 t15_0 t16_0 t16_1 t17_0 = (F_NH_powerModulo_aet x2 x3 x4 x5 t0_0 t0_1 t1_0 t2_0 t2_1 t3_0 t4_0 t4_1 t5_0 t6_0 t6_1 t7_0 t8_0 t8_1 t9_0 t10_0 t10_1 t11_0 t12_0 t12_1 t13_0 t14_0 t14_1 t15_0 t16_0 t16_1 t17_0) from (by have c636x := c636; rw [e79] at c636x; have c646x := c646; rw [e645] at c646x; have c656x := c656; rw [e655] at c656x; have c666x := c666; rw [e665] at c666x; rw [F_NH_powerModulo_aet.eq_1, if_neg c636x, if_neg c646x, if_neg c656x, if_pos c666x])), (show True ∧ S_NH_powerModulo_aet_J33 x2 x3 x4 x5 t0_0 t0_1 t1_0 t2_0 t2_1 t3_0 t4_0 t4_1 t5_0 t6_0 t6_1 t7_0 t8_0 t8_1 t9_0 t10_0 t10_1 t11_0 t12_0 t12_1 t13_0 t14_0 t14_1 t15_0 t16_0 t16_1 t17_0 from (by have h := hS; rw [S_NH_powerModulo_aet.eq_1] at h; have c636x := c636; rw [e79] at c636x; rw [if_neg c636x] at h; have c646x := c646; rw [e645] at c646x; rw [if_neg c646x] at h; have c656x := c656; rw [e655] at c656x; rw [if_neg c656x] at h; have c666x := c666; rw [e665] at c666x; rw [if_pos c666x] at h; with_reducible exact h))⟩
            ·
              refine lv_iconst (v := 1) hx hb d_1_10_29 (by decide) ?_
              refine lv_goto (tgt := 34) hx hb d_1_10_30 (by decide) ?_
              exact J99 ((1 : Int32)) _ _ _ ws ⟨(show q_F (0 ≤ 1) from (show 0 ≤ 1 from by omega)), (show q_F (1 ≤ 1) from (show 1 ≤ 1 from by omega)), V, q_lw hl (q_lw1 0 rfl (q_lw1 1 rfl (q_lw1 2 rfl (q_lw1 3 rfl (q_lw1 4 rfl q_lw0))))), (show F_NH_powerModulo_aet_J34 x2 x3 x4 x5 t0_0 t0_1 t1_0 t2_0 t2_1 t3_0 t4_0 t4_1 t5_0 t6_0 t6_1 t7_0 t8_0 t8_1 t9_0 t10_0 t10_1 t11_0 t12_0 t12_1 t13_0 t14_0 t14_1 t15_0 t16_0 t16_1 t17_0 1 = (F_NH_powerModulo_aet x2 x3 x4 x5 t0_0 t0_1 t1_0 t2_0 t2_1 t3_0 t4_0 t4_1 t5_0 t6_0 t6_1 t7_0 t8_0 t8_1 t9_0 t10_0 t10_1 t11_0 t12_0 t12_1 t13_0 t14_0 t14_1 t15_0 t16_0 t16_1 t17_0) from (by have c636x := c636; rw [e79] at c636x; have c646x := c646; rw [e645] at c646x; have c656x := c656; rw [e655] at c656x; have c666x := c666; rw [e665] at c666x; rw [F_NH_powerModulo_aet.eq_1, if_neg c636x, if_neg c646x, if_neg c656x, if_neg c666x])), (show True ∧ S_NH_powerModulo_aet_J34 x2 x3 x4 x5 t0_0 t0_1 t1_0 t2_0 t2_1 t3_0 t4_0 t4_1 t5_0 t6_0 t6_1 t7_0 t8_0 t8_1 t9_0 t10_0 t10_1 t11_0 t12_0 t12_1 t13_0 t14_0 t14_1 t15_0 t16_0 t16_1 t17_0 1 from (by have h := hS; rw [S_NH_powerModulo_aet.eq_1] at h; have c636x := c636; rw [e79] at c636x; rw [if_neg c636x] at h; have c646x := c646; rw [e645] at c646x; rw [if_neg c646x] at h; have c656x := c656; rw [e655] at c656x; rw [if_neg c656x] at h; have c666x := c666; rw [e665] at c666x; rw [if_neg c666x] at h; with_reducible exact h))⟩

/-! NumberHouse, exactly: r0.makeWhole -/
theorem d_1_25_0 : decode prog_1_method_25_code 0 = .ok (.iload_n 1, 1) := by decide +kernel
theorem d_1_25_1 : decode prog_1_method_25_code 1 = .ok (.ifCond .ne 22, 3) := by decide +kernel
theorem d_1_25_23 : decode prog_1_method_25_code 23 = .ok (.iload_n 1, 1) := by decide +kernel
theorem d_1_25_24 : decode prog_1_method_25_code 24 = .ok (.iconst 1, 1) := by decide +kernel
theorem d_1_25_25 : decode prog_1_method_25_code 25 = .ok (.if_icmp .ne 22, 3) := by decide +kernel
theorem d_1_25_47 : decode prog_1_method_25_code 47 = .ok (.aload_n 0, 1) := by decide +kernel
theorem d_1_25_48 : decode prog_1_method_25_code 48 = .ok (.iload_n 1, 1) := by decide +kernel
theorem d_1_25_49 : decode prog_1_method_25_code 49 = .ok (.invokevirtual 130, 3) := by decide +kernel
theorem d_1_25_52 : decode prog_1_method_25_code 52 = .ok (.astore_n 3, 1) := by decide +kernel
theorem d_1_25_53 : decode prog_1_method_25_code 53 = .ok (.aload_n 0, 1) := by decide +kernel
theorem d_1_25_54 : decode prog_1_method_25_code 54 = .ok (.iload_n 1, 1) := by decide +kernel
theorem d_1_25_55 : decode prog_1_method_25_code 55 = .ok (.invokevirtual 157, 3) := by decide +kernel
theorem d_1_25_58 : decode prog_1_method_25_code 58 = .ok (.iload_n 2, 1) := by decide +kernel
theorem d_1_25_59 : decode prog_1_method_25_code 59 = .ok (.laload, 1) := by decide +kernel
theorem d_1_25_60 : decode prog_1_method_25_code 60 = .ok (.lstore 4, 2) := by decide +kernel
theorem d_1_25_62 : decode prog_1_method_25_code 62 = .ok (.aload_n 3, 1) := by decide +kernel
theorem d_1_25_63 : decode prog_1_method_25_code 63 = .ok (.lload 4, 2) := by decide +kernel
theorem d_1_25_65 : decode prog_1_method_25_code 65 = .ok (.invokevirtual 179, 3) := by decide +kernel
set_option maxRecDepth 100000 in
theorem w_1152 : (Cond.methodLink "NumberHouse" (179 : Nat) ({ cls := "NumberHouse$Floats", name := "isFinite", desc := "(J)Z" } : MethodName)) ∈ q_tbl := q_of5 192 rfl (by decide +kernel)
theorem LV_NH_179 : q_LV "NumberHouse" 179 y_Flo_isFinite prog_7_method_5_code 3 (some .boolean) 1 := ⟨w_1155, w_8, w_1152, w_1153, w_1154, ⟨by decide, by decide, by decide +kernel⟩⟩
theorem d_1_25_68 : decode prog_1_method_25_code 68 = .ok (.invokestatic 138, 3) := by decide +kernel
theorem d_1_25_71 : decode prog_1_method_25_code 71 = .ok (.aload_n 3, 1) := by decide +kernel
theorem d_1_25_72 : decode prog_1_method_25_code 72 = .ok (.lload 4, 2) := by decide +kernel
theorem d_1_25_74 : decode prog_1_method_25_code 74 = .ok (.invokevirtual 403, 3) := by decide +kernel
set_option maxRecDepth 100000 in
theorem w_1507 : (Cond.code ({ cls := "NumberHouse$Floats", name := "towardsZero", desc := "(J)V" } : MethodName) prog_7_method_14_code (4 : Nat) (none : Option ClassFile.FieldType)) ∈ q_tbl := q_of7 67 rfl (by decide +kernel)
set_option maxRecDepth 100000 in
theorem w_1504 : (Cond.methodLink "NumberHouse" (403 : Nat) ({ cls := "NumberHouse$Floats", name := "towardsZero", desc := "(J)V" } : MethodName)) ∈ q_tbl := q_of7 64 rfl (by decide +kernel)
set_option maxRecDepth 100000 in
theorem w_1505 : (Cond.instanceMethod ({ cls := "NumberHouse$Floats", name := "towardsZero", desc := "(J)V" } : MethodName)) ∈ q_tbl := q_of7 65 rfl (by decide +kernel)
set_option maxRecDepth 100000 in
theorem w_1506 : (Cond.selects "NumberHouse$Floats" ({ cls := "NumberHouse$Floats", name := "towardsZero", desc := "(J)V" } : MethodName) ({ cls := "NumberHouse$Floats", name := "towardsZero", desc := "(J)V" } : MethodName)) ∈ q_tbl := q_of7 66 rfl (by decide +kernel)
theorem LV_NH_403 : q_LV "NumberHouse" 403 y_Flo_towardsZero prog_7_method_14_code 4 none 1 := ⟨w_1507, w_8, w_1504, w_1505, w_1506, ⟨by decide, by decide, by decide +kernel⟩⟩
theorem d_1_25_77 : decode prog_1_method_25_code 77 = .ok (.return_, 1) := by decide +kernel
theorem d_1_25_28 : decode prog_1_method_25_code 28 = .ok (.aload_n 0, 1) := by decide +kernel
theorem d_1_25_29 : decode prog_1_method_25_code 29 = .ok (.getfield 52, 3) := by decide +kernel
theorem d_1_25_32 : decode prog_1_method_25_code 32 = .ok (.aload_n 0, 1) := by decide +kernel
theorem d_1_25_33 : decode prog_1_method_25_code 33 = .ok (.getfield 29, 3) := by decide +kernel
theorem d_1_25_36 : decode prog_1_method_25_code 36 = .ok (.iload_n 2, 1) := by decide +kernel
theorem d_1_25_37 : decode prog_1_method_25_code 37 = .ok (.aaload, 1) := by decide +kernel
theorem d_1_25_38 : decode prog_1_method_25_code 38 = .ok (.invokevirtual 400, 3) := by decide +kernel
set_option maxRecDepth 100000 in
theorem w_1503 : (Cond.code ({ cls := "NumberHouse$DecimalWork", name := "towardsZero", desc := "(LNumberHouse$Dec;)Z" } : MethodName) prog_4_method_14_code (2 : Nat) (some .boolean)) ∈ q_tbl := q_of7 63 rfl (by decide +kernel)
set_option maxRecDepth 100000 in
theorem w_1500 : (Cond.methodLink "NumberHouse" (400 : Nat) ({ cls := "NumberHouse$DecimalWork", name := "towardsZero", desc := "(LNumberHouse$Dec;)Z" } : MethodName)) ∈ q_tbl := q_of7 60 rfl (by decide +kernel)
set_option maxRecDepth 100000 in
theorem w_1501 : (Cond.instanceMethod ({ cls := "NumberHouse$DecimalWork", name := "towardsZero", desc := "(LNumberHouse$Dec;)Z" } : MethodName)) ∈ q_tbl := q_of7 61 rfl (by decide +kernel)
set_option maxRecDepth 100000 in
theorem w_1502 : (Cond.selects "NumberHouse$DecimalWork" ({ cls := "NumberHouse$DecimalWork", name := "towardsZero", desc := "(LNumberHouse$Dec;)Z" } : MethodName) ({ cls := "NumberHouse$DecimalWork", name := "towardsZero", desc := "(LNumberHouse$Dec;)Z" } : MethodName)) ∈ q_tbl := q_of7 62 rfl (by decide +kernel)
theorem LV_NH_400 : q_LV "NumberHouse" 400 y_DW_towardsZero prog_4_method_14_code 2 (some .boolean) 1 := ⟨w_1503, w_5, w_1500, w_1501, w_1502, ⟨by decide, by decide, by decide +kernel⟩⟩
theorem d_1_25_41 : decode prog_1_method_25_code 41 = .ok (.invokestatic 138, 3) := by decide +kernel
theorem d_1_25_44 : decode prog_1_method_25_code 44 = .ok (.goto 33, 3) := by decide +kernel
theorem d_1_25_4 : decode prog_1_method_25_code 4 = .ok (.aload_n 0, 1) := by decide +kernel
theorem d_1_25_5 : decode prog_1_method_25_code 5 = .ok (.getfield 43, 3) := by decide +kernel
theorem d_1_25_8 : decode prog_1_method_25_code 8 = .ok (.getfield 141, 3) := by decide +kernel
theorem d_1_25_11 : decode prog_1_method_25_code 11 = .ok (.aload_n 0, 1) := by decide +kernel
theorem d_1_25_12 : decode prog_1_method_25_code 12 = .ok (.getfield 23, 3) := by decide +kernel
theorem d_1_25_15 : decode prog_1_method_25_code 15 = .ok (.iload_n 2, 1) := by decide +kernel
theorem d_1_25_16 : decode prog_1_method_25_code 16 = .ok (.aaload, 1) := by decide +kernel
theorem d_1_25_17 : decode prog_1_method_25_code 17 = .ok (.invokevirtual 145, 3) := by decide +kernel
theorem d_1_25_20 : decode prog_1_method_25_code 20 = .ok (.goto 57, 3) := by decide +kernel
def y_NH_makeWhole : MethodName := ⟨"NumberHouse", "makeWhole", "(II)V"⟩
def F_NH_makeWhole_c74 (x2 : Int32) (x3 : Int32) (t0_0 : Int64) (t0_1 : Int32) (t1_0 : Int32) (t1_1 : Int32) (t2_0 : (Nat → Int32)) (t3_0 : (Nat → Int64)) (t4_0 : (Nat → Int64)) (t5_0 : Int32) (t5_1 : Int32) (t6_0 : (Nat → Int32)) (t7_0 : Int32) (t7_1 : Int32) (t8_0 : Int32) (t8_1 : Int32) (t9_0 : (Nat → Int32)) (j59 : Int64) (p94 : (Int32 × Int32 × (Nat → Int32))) : Int32 × Int32 × Int32 × (Nat → Int32) := ((0 : Int32), (p94.1 : Int32), (p94.2.1 : Int32), (p94.2.2 : (Nat → Int32)))
def F_NH_makeWhole_c74_2 (x2 : Int32) (x3 : Int32) (t0_0 : Int64) (t0_1 : Int32) (t1_0 : Int32) (t1_1 : Int32) (t2_0 : (Nat → Int32)) (t3_0 : (Nat → Int64)) (t4_0 : (Nat → Int64)) (t5_0 : Int32) (t5_1 : Int32) (t6_0 : (Nat → Int32)) (t7_0 : Int32) (t7_1 : Int32) (t8_0 : Int32) (t8_1 : Int32) (t9_0 : (Nat → Int32)) (j108 : Int64) (p143 : (Int32 × Int32 × (Nat → Int32))) : Int32 × Int32 × Int32 × (Nat → Int32) := ((0 : Int32), (p143.1 : Int32), (p143.2.1 : Int32), (p143.2.2 : (Nat → Int32)))
def F_NH_makeWhole_c74_3 (x2 : Int32) (x3 : Int32) (t0_0 : Int64) (t0_1 : Int32) (t1_0 : Int32) (t1_1 : Int32) (t2_0 : (Nat → Int32)) (t3_0 : (Nat → Int64)) (t4_0 : (Nat → Int64)) (t5_0 : Int32) (t5_1 : Int32) (t6_0 : (Nat → Int32)) (t7_0 : Int32) (t7_1 : Int32) (t8_0 : Int32) (t8_1 : Int32) (t9_0 : (Nat → Int32)) (j164 : Int64) (p199 : (Int32 × Int32 × (Nat → Int32))) : Int32 × Int32 × Int32 × (Nat → Int32) := ((0 : Int32), (p199.1 : Int32), (p199.2.1 : Int32), (p199.2.2 : (Nat → Int32)))
def F_NH_makeWhole_c74_4 (x2 : Int32) (x3 : Int32) (t0_0 : Int64) (t0_1 : Int32) (t1_0 : Int32) (t1_1 : Int32) (t2_0 : (Nat → Int32)) (t3_0 : (Nat → Int64)) (t4_0 : (Nat → Int64)) (t5_0 : Int32) (t5_1 : Int32) (t6_0 : (Nat → Int32)) (t7_0 : Int32) (t7_1 : Int32) (t8_0 : Int32) (t8_1 : Int32) (t9_0 : (Nat → Int32)) (j213 : Int64) (p248 : (Int32 × Int32 × (Nat → Int32))) : Int32 × Int32 × Int32 × (Nat → Int32) := ((0 : Int32), (p248.1 : Int32), (p248.2.1 : Int32), (p248.2.2 : (Nat → Int32)))
def F_NH_makeWhole_c38 (x2 : Int32) (x3 : Int32) (t0_0 : Int64) (t0_1 : Int32) (t1_0 : Int32) (t1_1 : Int32) (t2_0 : (Nat → Int32)) (t3_0 : (Nat → Int64)) (t4_0 : (Nat → Int64)) (t5_0 : Int32) (t5_1 : Int32) (t6_0 : (Nat → Int32)) (t7_0 : Int32) (t7_1 : Int32) (t8_0 : Int32) (t8_1 : Int32) (t9_0 : (Nat → Int32)) (p283 : (Int32 × Int32 × Int32 × (Nat → Int32))) : Int32 × Int32 × Int32 × (Nat → Int32) := if (F_NH_canHave (p283.1 : Int32)) = (0 : Int32) then (((0 : Int32), (p283.2.1 : Int32), (p283.2.2.1 : Int32), (p283.2.2.2 : (Nat → Int32)))) else (((F_NH_canHave (p283.1 : Int32)), (p283.2.1 : Int32), (p283.2.2.1 : Int32), (p283.2.2.2 : (Nat → Int32))))
def F_NH_makeWhole_c17 (x2 : Int32) (x3 : Int32) (t0_0 : Int64) (t0_1 : Int32) (t1_0 : Int32) (t1_1 : Int32) (t2_0 : (Nat → Int32)) (t3_0 : (Nat → Int64)) (t4_0 : (Nat → Int64)) (t5_0 : Int32) (t5_1 : Int32) (t6_0 : (Nat → Int32)) (t7_0 : Int32) (t7_1 : Int32) (t8_0 : Int32) (t8_1 : Int32) (t9_0 : (Nat → Int32)) (p325 : (Int32 × Int32 × (Nat → Int32))) : Int32 × Int32 × Int32 × (Nat → Int32) := ((0 : Int32), (p325.1 : Int32), (p325.2.1 : Int32), (p325.2.2 : (Nat → Int32)))
def F_NH_makeWhole (x2 : Int32) (x3 : Int32) (t0_0 : Int64) (t0_1 : Int32) (t1_0 : Int32) (t1_1 : Int32) (t2_0 : (Nat → Int32)) (t3_0 : (Nat → Int64)) (t4_0 : (Nat → Int64)) (t5_0 : Int32) (t5_1 : Int32) (t6_0 : (Nat → Int32)) (t7_0 : Int32) (t7_1 : Int32) (t8_0 : Int32) (t8_1 : Int32) (t9_0 : (Nat → Int32)) : Int32 × Int32 × Int32 × (Nat → Int32) := if x2 = (0 : Int32) then (F_NH_makeWhole_c17 x2 x3 t0_0 t0_1 t1_0 t1_1 t2_0 t3_0 t4_0 t5_0 t5_1 t6_0 t7_0 t7_1 t8_0 t8_1 t9_0 ((F_Big_copy (220 : Int32) (68 : Int32) t1_0 t1_1 t2_0 t5_0 t5_1 t6_0) : (Int32 × Int32 × (Nat → Int32)))) else (if x2 = (1 : Int32) then (F_NH_makeWhole_c38 x2 x3 t0_0 t0_1 t1_0 t1_1 t2_0 t3_0 t4_0 t5_0 t5_1 t6_0 t7_0 t7_1 t8_0 t8_1 t9_0 ((F_DW_towardsZero (108 : Int32) t0_0 t0_1 t1_0 t1_1 t2_0 t7_0 t7_1 t8_0 t8_1 t9_0) : (Int32 × Int32 × Int32 × (Nat → Int32)))) else (if x2 = (2 : Int32) then (if x2 = (2 : Int32) then (if (F_NH_canHave ((F_Flo_isFinite (52 : Int32) (1075 : Int32) (2047 : Int32) (t3_0 x3.toNatClampNeg : Int64)) : Int32)) = (0 : Int32) then (F_NH_makeWhole_c74 x2 x3 t0_0 t0_1 t1_0 t1_1 t2_0 t3_0 t4_0 t5_0 t5_1 t6_0 t7_0 t7_1 t8_0 t8_1 t9_0 (t3_0 x3.toNatClampNeg : Int64) ((F_Flo_towardsZero (52 : Int32) (1075 : Int32) (2047 : Int32) (t3_0 x3.toNatClampNeg : Int64) t1_0 t1_1 t2_0) : (Int32 × Int32 × (Nat → Int32)))) else (((F_NH_canHave ((F_Flo_isFinite (52 : Int32) (1075 : Int32) (2047 : Int32) (t3_0 x3.toNatClampNeg : Int64)) : Int32)), t1_0, t1_1, t2_0))) else (if (F_NH_canHave ((F_Flo_isFinite (52 : Int32) (1075 : Int32) (2047 : Int32) (t4_0 x3.toNatClampNeg : Int64)) : Int32)) = (0 : Int32) then (F_NH_makeWhole_c74_2 x2 x3 t0_0 t0_1 t1_0 t1_1 t2_0 t3_0 t4_0 t5_0 t5_1 t6_0 t7_0 t7_1 t8_0 t8_1 t9_0 (t4_0 x3.toNatClampNeg : Int64) ((F_Flo_towardsZero (52 : Int32) (1075 : Int32) (2047 : Int32) (t4_0 x3.toNatClampNeg : Int64) t1_0 t1_1 t2_0) : (Int32 × Int32 × (Nat → Int32)))) else (((F_NH_canHave ((F_Flo_isFinite (52 : Int32) (1075 : Int32) (2047 : Int32) (t4_0 x3.toNatClampNeg : Int64)) : Int32)), t1_0, t1_1, t2_0)))) else (if x2 = (2 : Int32) then (if (F_NH_canHave ((F_Flo_isFinite (23 : Int32) (150 : Int32) (255 : Int32) (t3_0 x3.toNatClampNeg : Int64)) : Int32)) = (0 : Int32) then (F_NH_makeWhole_c74_3 x2 x3 t0_0 t0_1 t1_0 t1_1 t2_0 t3_0 t4_0 t5_0 t5_1 t6_0 t7_0 t7_1 t8_0 t8_1 t9_0 (t3_0 x3.toNatClampNeg : Int64) ((F_Flo_towardsZero (23 : Int32) (150 : Int32) (255 : Int32) (t3_0 x3.toNatClampNeg : Int64) t1_0 t1_1 t2_0) : (Int32 × Int32 × (Nat → Int32)))) else (((F_NH_canHave ((F_Flo_isFinite (23 : Int32) (150 : Int32) (255 : Int32) (t3_0 x3.toNatClampNeg : Int64)) : Int32)), t1_0, t1_1, t2_0))) else (if (F_NH_canHave ((F_Flo_isFinite (23 : Int32) (150 : Int32) (255 : Int32) (t4_0 x3.toNatClampNeg : Int64)) : Int32)) = (0 : Int32) then (F_NH_makeWhole_c74_4 x2 x3 t0_0 t0_1 t1_0 t1_1 t2_0 t3_0 t4_0 t5_0 t5_1 t6_0 t7_0 t7_1 t8_0 t8_1 t9_0 (t4_0 x3.toNatClampNeg : Int64) ((F_Flo_towardsZero (23 : Int32) (150 : Int32) (255 : Int32) (t4_0 x3.toNatClampNeg : Int64) t1_0 t1_1 t2_0) : (Int32 × Int32 × (Nat → Int32)))) else (((F_NH_canHave ((F_Flo_isFinite (23 : Int32) (150 : Int32) (255 : Int32) (t4_0 x3.toNatClampNeg : Int64)) : Int32)), t1_0, t1_1, t2_0))))))
def S_NH_makeWhole_c74 (x2 : Int32) (x3 : Int32) (t0_0 : Int64) (t0_1 : Int32) (t1_0 : Int32) (t1_1 : Int32) (t2_0 : (Nat → Int32)) (t3_0 : (Nat → Int64)) (t4_0 : (Nat → Int64)) (t5_0 : Int32) (t5_1 : Int32) (t6_0 : (Nat → Int32)) (t7_0 : Int32) (t7_1 : Int32) (t8_0 : Int32) (t8_1 : Int32) (t9_0 : (Nat → Int32)) (j59 : Int64) (p94 : (Int32 × Int32 × (Nat → Int32))) : Prop := True
def S_NH_makeWhole_c74_2 (x2 : Int32) (x3 : Int32) (t0_0 : Int64) (t0_1 : Int32) (t1_0 : Int32) (t1_1 : Int32) (t2_0 : (Nat → Int32)) (t3_0 : (Nat → Int64)) (t4_0 : (Nat → Int64)) (t5_0 : Int32) (t5_1 : Int32) (t6_0 : (Nat → Int32)) (t7_0 : Int32) (t7_1 : Int32) (t8_0 : Int32) (t8_1 : Int32) (t9_0 : (Nat → Int32)) (j108 : Int64) (p143 : (Int32 × Int32 × (Nat → Int32))) : Prop := True
def S_NH_makeWhole_c74_3 (x2 : Int32) (x3 : Int32) (t0_0 : Int64) (t0_1 : Int32) (t1_0 : Int32) (t1_1 : Int32) (t2_0 : (Nat → Int32)) (t3_0 : (Nat → Int64)) (t4_0 : (Nat → Int64)) (t5_0 : Int32) (t5_1 : Int32) (t6_0 : (Nat → Int32)) (t7_0 : Int32) (t7_1 : Int32) (t8_0 : Int32) (t8_1 : Int32) (t9_0 : (Nat → Int32)) (j164 : Int64) (p199 : (Int32 × Int32 × (Nat → Int32))) : Prop := True
def S_NH_makeWhole_c74_4 (x2 : Int32) (x3 : Int32) (t0_0 : Int64) (t0_1 : Int32) (t1_0 : Int32) (t1_1 : Int32) (t2_0 : (Nat → Int32)) (t3_0 : (Nat → Int64)) (t4_0 : (Nat → Int64)) (t5_0 : Int32) (t5_1 : Int32) (t6_0 : (Nat → Int32)) (t7_0 : Int32) (t7_1 : Int32) (t8_0 : Int32) (t8_1 : Int32) (t9_0 : (Nat → Int32)) (j213 : Int64) (p248 : (Int32 × Int32 × (Nat → Int32))) : Prop := True
def S_NH_makeWhole_c38 (x2 : Int32) (x3 : Int32) (t0_0 : Int64) (t0_1 : Int32) (t1_0 : Int32) (t1_1 : Int32) (t2_0 : (Nat → Int32)) (t3_0 : (Nat → Int64)) (t4_0 : (Nat → Int64)) (t5_0 : Int32) (t5_1 : Int32) (t6_0 : (Nat → Int32)) (t7_0 : Int32) (t7_1 : Int32) (t8_0 : Int32) (t8_1 : Int32) (t9_0 : (Nat → Int32)) (p283 : (Int32 × Int32 × Int32 × (Nat → Int32))) : Prop := if (F_NH_canHave (p283.1 : Int32)) = (0 : Int32) then (True) else (True)
def S_NH_makeWhole_c17 (x2 : Int32) (x3 : Int32) (t0_0 : Int64) (t0_1 : Int32) (t1_0 : Int32) (t1_1 : Int32) (t2_0 : (Nat → Int32)) (t3_0 : (Nat → Int64)) (t4_0 : (Nat → Int64)) (t5_0 : Int32) (t5_1 : Int32) (t6_0 : (Nat → Int32)) (t7_0 : Int32) (t7_1 : Int32) (t8_0 : Int32) (t8_1 : Int32) (t9_0 : (Nat → Int32)) (p325 : (Int32 × Int32 × (Nat → Int32))) : Prop := True
def S_NH_makeWhole (x2 : Int32) (x3 : Int32) (t0_0 : Int64) (t0_1 : Int32) (t1_0 : Int32) (t1_1 : Int32) (t2_0 : (Nat → Int32)) (t3_0 : (Nat → Int64)) (t4_0 : (Nat → Int64)) (t5_0 : Int32) (t5_1 : Int32) (t6_0 : (Nat → Int32)) (t7_0 : Int32) (t7_1 : Int32) (t8_0 : Int32) (t8_1 : Int32) (t9_0 : (Nat → Int32)) : Prop := if x2 = (0 : Int32) then ((0 ≤ x3.toInt) ∧ ((x3.toInt ≤ 9) ∧ (S_NH_makeWhole_c17 x2 x3 t0_0 t0_1 t1_0 t1_1 t2_0 t3_0 t4_0 t5_0 t5_1 t6_0 t7_0 t7_1 t8_0 t8_1 t9_0 ((F_Big_copy (220 : Int32) (68 : Int32) t1_0 t1_1 t2_0 t5_0 t5_1 t6_0) : (Int32 × Int32 × (Nat → Int32)))))) else (if x2 = (1 : Int32) then ((0 ≤ x3.toInt) ∧ ((x3.toInt ≤ 9) ∧ (S_NH_makeWhole_c38 x2 x3 t0_0 t0_1 t1_0 t1_1 t2_0 t3_0 t4_0 t5_0 t5_1 t6_0 t7_0 t7_1 t8_0 t8_1 t9_0 ((F_DW_towardsZero (108 : Int32) t0_0 t0_1 t1_0 t1_1 t2_0 t7_0 t7_1 t8_0 t8_1 t9_0) : (Int32 × Int32 × Int32 × (Nat → Int32)))))) else (if x2 = (2 : Int32) then (if x2 = (2 : Int32) then ((0 ≤ x3.toInt) ∧ ((x3.toInt ≤ 9) ∧ (if (F_NH_canHave ((F_Flo_isFinite (52 : Int32) (1075 : Int32) (2047 : Int32) (t3_0 x3.toNatClampNeg : Int64)) : Int32)) = (0 : Int32) then (S_NH_makeWhole_c74 x2 x3 t0_0 t0_1 t1_0 t1_1 t2_0 t3_0 t4_0 t5_0 t5_1 t6_0 t7_0 t7_1 t8_0 t8_1 t9_0 (t3_0 x3.toNatClampNeg : Int64) ((F_Flo_towardsZero (52 : Int32) (1075 : Int32) (2047 : Int32) (t3_0 x3.toNatClampNeg : Int64) t1_0 t1_1 t2_0) : (Int32 × Int32 × (Nat → Int32)))) else (True)))) else ((0 ≤ x3.toInt) ∧ ((x3.toInt ≤ 9) ∧ (if (F_NH_canHave ((F_Flo_isFinite (52 : Int32) (1075 : Int32) (2047 : Int32) (t4_0 x3.toNatClampNeg : Int64)) : Int32)) = (0 : Int32) then (S_NH_makeWhole_c74_2 x2 x3 t0_0 t0_1 t1_0 t1_1 t2_0 t3_0 t4_0 t5_0 t5_1 t6_0 t7_0 t7_1 t8_0 t8_1 t9_0 (t4_0 x3.toNatClampNeg : Int64) ((F_Flo_towardsZero (52 : Int32) (1075 : Int32) (2047 : Int32) (t4_0 x3.toNatClampNeg : Int64) t1_0 t1_1 t2_0) : (Int32 × Int32 × (Nat → Int32)))) else (True))))) else (if x2 = (2 : Int32) then ((0 ≤ x3.toInt) ∧ ((x3.toInt ≤ 9) ∧ (if (F_NH_canHave ((F_Flo_isFinite (23 : Int32) (150 : Int32) (255 : Int32) (t3_0 x3.toNatClampNeg : Int64)) : Int32)) = (0 : Int32) then (S_NH_makeWhole_c74_3 x2 x3 t0_0 t0_1 t1_0 t1_1 t2_0 t3_0 t4_0 t5_0 t5_1 t6_0 t7_0 t7_1 t8_0 t8_1 t9_0 (t3_0 x3.toNatClampNeg : Int64) ((F_Flo_towardsZero (23 : Int32) (150 : Int32) (255 : Int32) (t3_0 x3.toNatClampNeg : Int64) t1_0 t1_1 t2_0) : (Int32 × Int32 × (Nat → Int32)))) else (True)))) else ((0 ≤ x3.toInt) ∧ ((x3.toInt ≤ 9) ∧ (if (F_NH_canHave ((F_Flo_isFinite (23 : Int32) (150 : Int32) (255 : Int32) (t4_0 x3.toNatClampNeg : Int64)) : Int32)) = (0 : Int32) then (S_NH_makeWhole_c74_4 x2 x3 t0_0 t0_1 t1_0 t1_1 t2_0 t3_0 t4_0 t5_0 t5_1 t6_0 t7_0 t7_1 t8_0 t8_1 t9_0 (t4_0 x3.toNatClampNeg : Int64) ((F_Flo_towardsZero (23 : Int32) (150 : Int32) (255 : Int32) (t4_0 x3.toNatClampNeg : Int64) t1_0 t1_1 t2_0) : (Int32 × Int32 × (Nat → Int32)))) else (True)))))))
set_option maxRecDepth 100000 in
set_option maxHeartbeats 4000000 in
theorem X_NH_makeWhole (l : Launch) (D : va_G) (g : Nat → ClassId) (q : Nat → Nat) (ws : va_W) (x2 : Int32) (x3 : Int32) (k3 : Nat) (hBk3 : q_isBig (nsh g q) g q k3 68) (yk3 : 66 ≤ k3) (gk3x3 : x3.toNatClampNeg < 10 → k3 = 66 + 5 * x3.toNatClampNeg) (d3 : Nat) (hBd3 : q_isDec (nsh g q) g q d3 108) (yd3 : 66 ≤ d3) (gd3x3 : x3.toNatClampNeg < 10 → d3 = 68 + 5 * x3.toNatClampNeg) (ne_k3_d3 : k3 ≠ d3) (ne_k3_d3p1 : k3 ≠ d3 + 1) (ne_k3_d3p2 : k3 ≠ d3 + 2) (ne_d3_k3p1 : d3 ≠ k3 + 1) (hlt : l.stackTraces = false) (hI : q_I (nsh g q) q ws) (t0_0 : Int64) (t0_1 : Int32) (hT0 : ws[30]? = (some (q 30, .inr (5, [.ref (q 31), .long t0_0, .ref (q 9), .int t0_1])) : Option (Nat × va_E))) (t1_0 : Int32) (t1_1 : Int32) (hT1 : ws[10]? = (some (q 10, .inr (2, [.ref (q 11), .int t1_0, .int t1_1])) : Option (Nat × va_E))) (t2_0 : (Nat → Int32)) (hT2 : ws[11]? = (some (q 11, .inl (g 0, (220 : Int32).toNatClampNeg, .inl t2_0)) : Option (Nat × va_E))) (t3_0 : (Nat → Int64)) (hT3 : ws[7]? = (some (q 7, .inl (g 1, 10, .inr (.inl t3_0))) : Option (Nat × va_E))) (t4_0 : (Nat → Int64)) (hT4 : ws[8]? = (some (q 8, .inl (g 1, 10, .inr (.inl t4_0))) : Option (Nat × va_E))) (t5_0 : Int32) (t5_1 : Int32) (hT5 : ws[k3]? = (some (q k3, .inr (2, [.ref (q (k3 + 1)), .int t5_0, .int t5_1])) : Option (Nat × va_E))) (t6_0 : (Nat → Int32)) (hT6 : ws[k3 + 1]? = (some (q (k3 + 1), .inl (g 0, (68 : Int32).toNatClampNeg, .inl t6_0)) : Option (Nat × va_E))) (t7_0 : Int32) (t7_1 : Int32) (hT7 : ws[d3]? = (some (q d3, .inr (3, [.ref (q (d3 + 1)), .int t7_0, .int t7_1])) : Option (Nat × va_E))) (t8_0 : Int32) (t8_1 : Int32) (hT8 : ws[d3 + 1]? = (some (q (d3 + 1), .inr (2, [.ref (q (d3 + 2)), .int t8_0, .int t8_1])) : Option (Nat × va_E))) (t9_0 : (Nat → Int32)) (hT9 : ws[d3 + 2]? = (some (q (d3 + 2), .inl (g 0, (108 : Int32).toNatClampNeg, .inl t9_0)) : Option (Nat × va_E))) (hS : True ∧ S_NH_makeWhole x2 x3 t0_0 t0_1 t1_0 t1_1 t2_0 t3_0 t4_0 t5_0 t5_1 t6_0 t7_0 t7_1 t8_0 t8_1 t9_0) : ∀ sz, q_Mx l y_NH_makeWhole prog_1_method_25_code 6 none 8 1 6 D g [.ref (q 0), .int x2, .int x3] ws sz (va_Qv (fun u => q_I (nsh g q) q u ∧ q_un ws u [10, 11] ∧ ∃ (u1_0 : Int32) (u1_1 : Int32) (u2_0 : (Nat → Int32)), u[10]? = (some (q 10, .inr (2, [.ref (q 11), .int u1_0, .int u1_1])) : Option (Nat × va_E)) ∧ u[11]? = (some (q 11, .inl (g 0, (220 : Int32).toNatClampNeg, .inl u2_0)) : Option (Nat × va_E)) ∧ (0 ≤ u1_0.toInt) ∧ (u1_0.toInt ≤ 220) ∧ (0 ≤ u1_1.toInt) ∧ (u1_1.toInt ≤ 1) ∧ (x3.toInt ≤ u1_0.toInt + 9) ∧ (u1_0.toInt ≤ x3.toInt + 220) ∧ (x3.toInt ≤ u1_1.toInt + 9) ∧ (u1_1.toInt ≤ x3.toInt + 1) ∧ ((0 : Int32), u1_0, u1_1, u2_0) = (F_NH_makeWhole x2 x3 t0_0 t0_1 t1_0 t1_1 t2_0 t3_0 t4_0 t5_0 t5_1 t6_0 t7_0 t7_1 t8_0 t8_1 t9_0)) (q_B D g (va_A ws sz)) (va_A ws sz)) (fun E u => ∃ c : Int32, E = qE c ∧ c ≠ 0 ∧ q_I (nsh g q) q u ∧ q_un ws u [10, 11] ∧ ∃ (u1_0 : Int32) (u1_1 : Int32) (u2_0 : (Nat → Int32)), u[10]? = (some (q 10, .inr (2, [.ref (q 11), .int u1_0, .int u1_1])) : Option (Nat × va_E)) ∧ u[11]? = (some (q 11, .inl (g 0, (220 : Int32).toNatClampNeg, .inl u2_0)) : Option (Nat × va_E)) ∧ (c, u1_0, u1_1, u2_0) = (F_NH_makeWhole x2 x3 t0_0 t0_1 t1_0 t1_1 t2_0 t3_0 t4_0 t5_0 t5_1 t6_0 t7_0 t7_1 t8_0 t8_1 t9_0)) := by
  intro sz
  refine q_intoX (by decide) (Nat.le_of_ble_eq_true rfl) ?_
  intro p e s m below meth c ls hsz C0 V hno hl
  have hx := C0.1
  have hb := C0.2.1
  have btt0_1 := n_w30 hI hT0
  clear btt0_1
  have btt1_1 := (q_bigW hI (n_b10 g q) hT1).2
  clear btt1_1
  have btt5_1 := (q_bigW hI hBk3 hT5).2
  replace btt5_1 : q_F (0 ≤ t5_1.toInt ∧ t5_1.toInt ≤ 1) := btt5_1
  have btt7_1 := (n_deW hI hBd3 hT7).2
  clear btt7_1
  have btt8_1 := (q_bigW hI hBd3.2 hT8).2
  replace btt8_1 : q_F (0 ≤ t8_1.toInt ∧ t8_1.toInt ≤ 1) := btt8_1
  have hF : q_un ws ws [10, 11] := q_u0
  have hl : lv_has ls 6 [(0, .ref (q 0)), (1, .int x2), (2, .int x3)] := hl
  refine lv_iload_n hx hb d_1_25_0 rfl (lv_at hl 1 rfl) ?_
  refine lv_if_ne (tgt := 23) hx hb d_1_25_1 (by decide) (fun c38 => ?_) (fun c38 => ?_)
  ·
    refine lv_iload_n hx hb d_1_25_23 rfl (lv_at hl 1 rfl) ?_
    refine lv_iconst (v := 1) hx hb d_1_25_24 (by decide) ?_
    refine lv_icmp_ne (tgt := 47) hx hb d_1_25_25 (by decide) (fun c40 => ?_) (fun c40 => ?_)
    ·
      refine lv_aload_n hx hb d_1_25_47 rfl (lv_at hl 0 rfl) ?_
      refine lv_iload_n hx hb d_1_25_48 rfl (lv_at hl 1 rfl) ?_
      have hO42 := n_o0 hI
      refine q_gor (post := fun r u => ws = u ∧ r = q (F_NH_floatsOf x2)) V (q_runV (As := [.int x2]) (rest := []) (d := 1) (mc := 0) (ms := 0) (ci := 0) C0 V rfl LV_NH_130 (X_NH_floatsOf l D g q ws  x2 hI   _) rfl rfl hO42 rfl hl.1 rfl (Nat.le_of_ble_eq_true rfl) ⟨by decide, by decide⟩ ⟨Nat.le_of_ble_eq_true rfl, Nat.le_of_ble_eq_true rfl⟩ d_1_25_49) (fun a45 u43 H locs hp44 V => ?_)
      obtain ⟨rfl, hr46⟩ := hp44
      by_cases c47 : x2 = (2 : Int32)
      ·
        have hr48 : a45 = q 34 := hr46.trans (congrArg q (by unfold F_NH_floatsOf; rw [if_pos c47]))
        subst hr48
        refine lv_astore_n (lv' := [(3, .ref (q 34)), (0, .ref (q 0)), (1, .int x2), (2, .int x3)]) hx hb d_1_25_52 rfl hl (by decide) rfl (fun ls hl => ?_)
        refine lv_aload_n hx hb d_1_25_53 rfl (lv_at hl 1 rfl) ?_
        refine lv_iload_n hx hb d_1_25_54 rfl (lv_at hl 2 rfl) ?_
        refine q_gor (post := fun r u => ws = u ∧ r = q (F_NH_floatRow x2)) V (q_runV (As := [.int x2]) (rest := []) (d := 1) (mc := 0) (ms := 0) (ci := 0) C0 V rfl LV_NH_157 (X_NH_floatRow l D g q ws  x2 hI   _) rfl rfl hO42 rfl hl.1 rfl (Nat.le_of_ble_eq_true rfl) ⟨by decide, by decide⟩ ⟨Nat.le_of_ble_eq_true rfl, Nat.le_of_ble_eq_true rfl⟩ d_1_25_55) (fun a52 u50 H locs hp51 V => ?_)
        obtain ⟨rfl, hr53⟩ := hp51
        by_cases c54 : x2 = (2 : Int32)
        ·
          have hr55 : a52 = q 7 := hr53.trans (congrArg q (by unfold F_NH_floatRow; rw [if_pos c54]))
          subst hr55
          refine lv_iload_n hx hb d_1_25_58 rfl (lv_at hl 3 rfl) ?_
          have ob57 : q_F (0 ≤ x3.toInt) := (by have h := hS; rw [S_NH_makeWhole.eq_1] at h; rw [if_neg c38] at h; rw [if_neg c40] at h; rw [if_pos c47] at h; rw [if_pos c54] at h; exact h.2.1)
          have ob58 : q_F (x3.toInt ≤ 9) := (by have h := hS; rw [S_NH_makeWhole.eq_1] at h; rw [if_neg c38] at h; rw [if_neg c40] at h; rw [if_pos c47] at h; rw [if_pos c54] at h; replace h := q_s2 h; exact h.2.1)
          refine q_lald C0 V hT3 (q_ix (x := x3.toInt) rfl (by first | with_reducible exact q_fe ob57 | (have t1 : 0 ≤ x3.toInt := ob57; omega)) (by have t1 : 0 ≤ x3.toInt := ob57; have t2 : x3.toInt ≤ 9 := ob58; omega)) d_1_25_59 ?_
          obtain ⟨j59, e60⟩ := q_nm (t3_0 x3.toNatClampNeg : Int64)
          refine q_tl (v := j59) e60 ?_
          refine lv_lstore (lv' := [(4, .long j59), (3, .ref (q 34)), (0, .ref (q 0)), (1, .int x2), (2, .int x3)]) hx hb d_1_25_60 hl (by decide) rfl (fun ls hl => ?_)
          refine lv_aload_n hx hb d_1_25_62 rfl (lv_at hl 1 rfl) ?_
          refine lv_lload hx hb d_1_25_63 (lv_at hl 0 rfl) ?_
          obtain ⟨y62, y63, y64, hO61⟩ := n_flO hI (n_f34 g q)
          refine q_goi V (q_runV (As := [.long j59]) (rest := []) (d := 2) (mc := 0) (ms := 0) (ci := 6) C0 V rfl LV_NH_179 (X_Flo_isFinite l D g q ws 34 52 1075 2047 (n_f34 g q) j59 hI   _) rfl rfl hO61 rfl hl.1 rfl (Nat.le_of_ble_eq_true rfl) ⟨by decide, by decide⟩ ⟨Nat.le_of_ble_eq_true rfl, Nat.le_of_ble_eq_true rfl⟩ d_1_25_65) (fun a67 u65 H locs hp66 V => ?_)
          obtain ⟨rfl, b68, b69, hE70⟩ := hp66
          have e71 : a67 = (F_Flo_isFinite (52 : Int32) (1075 : Int32) (2047 : Int32) j59) := hE70
          replace b68 : q_F (0 ≤ a67.toInt) := b68
          replace b69 : q_F (a67.toInt ≤ 1) := b69
          refine q_goxv V (q_runSX (As := [.int a67]) (rest := []) (d := 7) (mc := 1) (ms := 6) C0 V rfl LS_NH_138 (X_NH_canHave l D g q ws  a67 hlt hI  ⟨(by first | with_reducible exact q_fe b68 | (have t1 : 0 ≤ a67.toInt := b68; omega)), (by first | with_reducible exact q_fe b69 | (have t1 : a67.toInt ≤ 1 := b69; omega))⟩ _) rfl hl.1 rfl (Nat.le_of_ble_eq_true rfl) ⟨by decide, by decide⟩ ⟨Nat.le_of_ble_eq_true rfl, Nat.le_of_ble_eq_true rfl⟩ d_1_25_68) (fun qx Ex ce u72 H locs hp73 V hce hcv hcl => ?_) (fun u72 H locs hp73 V => ?_)
          ·
            obtain ⟨cx75, he76, hc77, rfl, hE74⟩ := hp73
            have c78 : ¬ (F_NH_canHave a67) = (0 : Int32) := fun z => hc77 (((hE74) : cx75 = _).trans z)
            exact q_outT hno C0 V (⟨(F_NH_canHave a67), (he76.trans (congrArg qE ((hE74) : cx75 = _))), c78, hI, hF, t1_0, t1_1, t2_0, hT1, hT2, (show ((F_NH_canHave a67), t1_0, t1_1, t2_0) = (F_NH_makeWhole x2 x3 t0_0 t0_1 t1_0 t1_1 t2_0 t3_0 t4_0 t5_0 t5_1 t6_0 t7_0 t7_1 t8_0 t8_1 t9_0) from (by have c78x := c78; rw [e71, ← e60] at c78x; rw [e71, ← e60, F_NH_makeWhole.eq_1, if_neg c38, if_neg c40, if_pos c47, if_pos c54, if_neg c78x]))⟩) hce hcv hcl (Nat.le_of_ble_eq_true rfl) (Nat.le_of_ble_eq_true rfl)
          ·
            obtain ⟨rfl, hE79⟩ := hp73
            have c78 : (F_NH_canHave a67) = (0 : Int32) := ((hE79) : (0 : Int32) = _).symm
            refine lv_aload_n hx hb d_1_25_71 rfl (lv_at hl 1 rfl) ?_
            refine lv_lload hx hb d_1_25_72 (lv_at hl 0 rfl) ?_
            refine q_gov V (q_runV (As := [.long j59]) (rest := []) (d := 4) (mc := 0) (ms := 0) (ci := 6) C0 V rfl LV_NH_403 (X_Flo_towardsZero l D g q ws 34 52 1075 2047 (n_f34 g q) j59 hI t1_0 t1_1 hT1 t2_0 hT2  _) rfl rfl hO61 rfl hl.1 rfl (Nat.le_of_ble_eq_true rfl) ⟨by decide, by decide⟩ ⟨Nat.le_of_ble_eq_true rfl, Nat.le_of_ble_eq_true rfl⟩ d_1_25_74) (fun u81 H locs hp82 V => ?_)
            obtain ⟨hI, hZ9⟩ := hp82
            obtain ⟨hu93, hZ9⟩ := hZ9
            obtain ⟨y84, hZ9⟩ := hZ9
            obtain ⟨y85, hZ9⟩ := hZ9
            obtain ⟨f86, hZ9⟩ := hZ9
            obtain ⟨hO83, hZ9⟩ := hZ9
            obtain ⟨hA87, hZ9⟩ := hZ9
            obtain ⟨b88, hZ9⟩ := hZ9
            obtain ⟨b89, hZ9⟩ := hZ9
            obtain ⟨b90, hZ9⟩ := hZ9
            obtain ⟨b91, hE92⟩ := hZ9
            replace hO83 : u81[10]? = (some (q 10, .inr (2, [.ref (q 11), .int y84, .int y85])) : Option (Nat × va_E)) := hO83
            replace hA87 : u81[11]? = (some (q 11, .inl (g 0, (220 : Int32).toNatClampNeg, .inl f86)) : Option (Nat × va_E)) := hA87
            obtain ⟨p94, e95⟩ : ∃ z, z = (F_Flo_towardsZero (52 : Int32) (1075 : Int32) (2047 : Int32) j59 t1_0 t1_1 t2_0) := ⟨_, rfl⟩
            have e96 : y84 = p94.1 := congrArg (fun z => z.1) (hE92.trans e95.symm)
            have e97 : y85 = p94.2.1 := congrArg (fun z => z.2.1) (hE92.trans e95.symm)
            have e98 : f86 = p94.2.2 := congrArg (fun z => z.2.2) (hE92.trans e95.symm)
            replace b88 : q_F (y84.toInt ≤ 220) := b88
            replace b89 : q_F (0 ≤ y85.toInt) := b89
            replace b90 : q_F (y85.toInt ≤ 1) := b90
            replace b91 : q_F (y85.toInt ≤ y84.toInt) := b91
            replace hF := q_uc hF hu93 (by simp)
            have hR99 := (show F_NH_makeWhole_c74 x2 x3 t0_0 t0_1 t1_0 t1_1 t2_0 t3_0 t4_0 t5_0 t5_1 t6_0 t7_0 t7_1 t8_0 t8_1 t9_0 j59 p94 = (F_NH_makeWhole x2 x3 t0_0 t0_1 t1_0 t1_1 t2_0 t3_0 t4_0 t5_0 t5_1 t6_0 t7_0 t7_1 t8_0 t8_1 t9_0) from (by have c78x := c78; rw [e71, ← e60] at c78x; rw [e95, ← e60, F_NH_makeWhole.eq_1, if_neg c38, if_neg c40, if_pos c47, if_pos c54, if_pos c78x]))
            have hS100 := (show True ∧ S_NH_makeWhole_c74 x2 x3 t0_0 t0_1 t1_0 t1_1 t2_0 t3_0 t4_0 t5_0 t5_1 t6_0 t7_0 t7_1 t8_0 t8_1 t9_0 j59 p94 from (by rw [e95, ← e60]; have h := hS; rw [S_NH_makeWhole.eq_1] at h; rw [if_neg c38] at h; rw [if_neg c40] at h; rw [if_pos c47] at h; rw [if_pos c54] at h; replace h := q_s2 h; replace h := q_s2 h; have c78x := c78; rw [e71, ← e60] at c78x; rw [if_pos c78x] at h; with_reducible exact h))
            exact q_retX (q_retv C0 V (⟨hI, hF, y84, y85, f86, hO83, hA87, (show 0 ≤ y84.toInt from (by have t1 : 0 ≤ y85.toInt := b89; have t2 : y85.toInt ≤ y84.toInt := b91; omega)), (show y84.toInt ≤ 220 from (by first | with_reducible exact q_fe b88 | (have t1 : y84.toInt ≤ 220 := b88; omega))), (show 0 ≤ y85.toInt from (by first | with_reducible exact q_fe b89 | (have t1 : 0 ≤ y85.toInt := b89; omega))), (show y85.toInt ≤ 1 from (by first | with_reducible exact q_fe b90 | (have t1 : y85.toInt ≤ 1 := b90; omega))), (show x3.toInt ≤ y84.toInt + 9 from (by have t1 : x3.toInt ≤ 9 := ob58; have t2 : 0 ≤ y85.toInt := b89; have t3 : y85.toInt ≤ y84.toInt := b91; omega)), (show y84.toInt ≤ x3.toInt + 220 from (by have t1 : 0 ≤ x3.toInt := ob57; have t2 : y84.toInt ≤ 220 := b88; omega)), (show x3.toInt ≤ y85.toInt + 9 from (by have t1 : x3.toInt ≤ 9 := ob58; have t2 : 0 ≤ y85.toInt := b89; omega)), (show y85.toInt ≤ x3.toInt + 1 from (by have t1 : 0 ≤ x3.toInt := ob57; have t2 : y85.toInt ≤ 1 := b90; omega)), (show ((0 : Int32), y84, y85, f86) = (F_NH_makeWhole x2 x3 t0_0 t0_1 t1_0 t1_1 t2_0 t3_0 t4_0 t5_0 t5_1 t6_0 t7_0 t7_1 t8_0 t8_1 t9_0) from Eq.trans (by rw [e98, e97, e96, F_NH_makeWhole_c74.eq_1]) hR99)⟩) d_1_25_77)
        ·
          have hr104 : a52 = q 8 := hr53.trans (congrArg q (by unfold F_NH_floatRow; rw [if_neg c54]))
          subst hr104
          refine lv_iload_n hx hb d_1_25_58 rfl (lv_at hl 3 rfl) ?_
          have ob106 : q_F (0 ≤ x3.toInt) := (by have h := hS; rw [S_NH_makeWhole.eq_1] at h; rw [if_neg c38] at h; rw [if_neg c40] at h; rw [if_pos c47] at h; rw [if_neg c54] at h; exact h.2.1)
          have ob107 : q_F (x3.toInt ≤ 9) := (by have h := hS; rw [S_NH_makeWhole.eq_1] at h; rw [if_neg c38] at h; rw [if_neg c40] at h; rw [if_pos c47] at h; rw [if_neg c54] at h; replace h := q_s2 h; exact h.2.1)
          refine q_lald C0 V hT4 (q_ix (x := x3.toInt) rfl (by first | with_reducible exact q_fe ob106 | (have t1 : 0 ≤ x3.toInt := ob106; omega)) (by have t1 : 0 ≤ x3.toInt := ob106; have t2 : x3.toInt ≤ 9 := ob107; omega)) d_1_25_59 ?_
          obtain ⟨j108, e109⟩ := q_nm (t4_0 x3.toNatClampNeg : Int64)
          refine q_tl (v := j108) e109 ?_
          refine lv_lstore (lv' := [(4, .long j108), (3, .ref (q 34)), (0, .ref (q 0)), (1, .int x2), (2, .int x3)]) hx hb d_1_25_60 hl (by decide) rfl (fun ls hl => ?_)
          refine lv_aload_n hx hb d_1_25_62 rfl (lv_at hl 1 rfl) ?_
          refine lv_lload hx hb d_1_25_63 (lv_at hl 0 rfl) ?_
          obtain ⟨y111, y112, y113, hO110⟩ := n_flO hI (n_f34 g q)
          refine q_goi V (q_runV (As := [.long j108]) (rest := []) (d := 2) (mc := 0) (ms := 0) (ci := 6) C0 V rfl LV_NH_179 (X_Flo_isFinite l D g q ws 34 52 1075 2047 (n_f34 g q) j108 hI   _) rfl rfl hO110 rfl hl.1 rfl (Nat.le_of_ble_eq_true rfl) ⟨by decide, by decide⟩ ⟨Nat.le_of_ble_eq_true rfl, Nat.le_of_ble_eq_true rfl⟩ d_1_25_65) (fun a116 u114 H locs hp115 V => ?_)
          obtain ⟨rfl, b117, b118, hE119⟩ := hp115
          have e120 : a116 = (F_Flo_isFinite (52 : Int32) (1075 : Int32) (2047 : Int32) j108) := hE119
          replace b117 : q_F (0 ≤ a116.toInt) := b117
          replace b118 : q_F (a116.toInt ≤ 1) := b118
          refine q_goxv V (q_runSX (As := [.int a116]) (rest := []) (d := 7) (mc := 1) (ms := 6) C0 V rfl LS_NH_138 (X_NH_canHave l D g q ws  a116 hlt hI  ⟨(by first | with_reducible exact q_fe b117 | (have t1 : 0 ≤ a116.toInt := b117; omega)), (by first | with_reducible exact q_fe b118 | (have t1 : a116.toInt ≤ 1 := b118; omega))⟩ _) rfl hl.1 rfl (Nat.le_of_ble_eq_true rfl) ⟨by decide, by decide⟩ ⟨Nat.le_of_ble_eq_true rfl, Nat.le_of_ble_eq_true rfl⟩ d_1_25_68) (fun qx Ex ce u121 H locs hp122 V hce hcv hcl => ?_) (fun u121 H locs hp122 V => ?_)
          ·
            obtain ⟨cx124, he125, hc126, rfl, hE123⟩ := hp122
            have c127 : ¬ (F_NH_canHave a116) = (0 : Int32) := fun z => hc126 (((hE123) : cx124 = _).trans z)
            exact q_outT hno C0 V (⟨(F_NH_canHave a116), (he125.trans (congrArg qE ((hE123) : cx124 = _))), c127, hI, hF, t1_0, t1_1, t2_0, hT1, hT2, (show ((F_NH_canHave a116), t1_0, t1_1, t2_0) = (F_NH_makeWhole x2 x3 t0_0 t0_1 t1_0 t1_1 t2_0 t3_0 t4_0 t5_0 t5_1 t6_0 t7_0 t7_1 t8_0 t8_1 t9_0) from (by have c127x := c127; rw [e120, ← e109] at c127x; rw [e120, ← e109, F_NH_makeWhole.eq_1, if_neg c38, if_neg c40, if_pos c47, if_neg c54, if_neg c127x]))⟩) hce hcv hcl (Nat.le_of_ble_eq_true rfl) (Nat.le_of_ble_eq_true rfl)
          ·
            obtain ⟨rfl, hE128⟩ := hp122
            have c127 : (F_NH_canHave a116) = (0 : Int32) := ((hE128) : (0 : Int32) = _).symm
            refine lv_aload_n hx hb d_1_25_71 rfl (lv_at hl 1 rfl) ?_
            refine lv_lload hx hb d_1_25_72 (lv_at hl 0 rfl) ?_
            refine q_gov V (q_runV (As := [.long j108]) (rest := []) (d := 4) (mc := 0) (ms := 0) (ci := 6) C0 V rfl LV_NH_403 (X_Flo_towardsZero l D g q ws 34 52 1075 2047 (n_f34 g q) j108 hI t1_0 t1_1 hT1 t2_0 hT2  _) rfl rfl hO110 rfl hl.1 rfl (Nat.le_of_ble_eq_true rfl) ⟨by decide, by decide⟩ ⟨Nat.le_of_ble_eq_true rfl, Nat.le_of_ble_eq_true rfl⟩ d_1_25_74) (fun u130 H locs hp131 V => ?_)
            obtain ⟨hI, hZ9⟩ := hp131
            obtain ⟨hu142, hZ9⟩ := hZ9
            obtain ⟨y133, hZ9⟩ := hZ9
            obtain ⟨y134, hZ9⟩ := hZ9
            obtain ⟨f135, hZ9⟩ := hZ9
            obtain ⟨hO132, hZ9⟩ := hZ9
            obtain ⟨hA136, hZ9⟩ := hZ9
            obtain ⟨b137, hZ9⟩ := hZ9
            obtain ⟨b138, hZ9⟩ := hZ9
            obtain ⟨b139, hZ9⟩ := hZ9
            obtain ⟨b140, hE141⟩ := hZ9
            replace hO132 : u130[10]? = (some (q 10, .inr (2, [.ref (q 11), .int y133, .int y134])) : Option (Nat × va_E)) := hO132
            replace hA136 : u130[11]? = (some (q 11, .inl (g 0, (220 : Int32).toNatClampNeg, .inl f135)) : Option (Nat × va_E)) := hA136
            obtain ⟨p143, e144⟩ : ∃ z, z = (F_Flo_towardsZero (52 : Int32) (1075 : Int32) (2047 : Int32) j108 t1_0 t1_1 t2_0) := ⟨_, rfl⟩
            have e145 : y133 = p143.1 := congrArg (fun z => z.1) (hE141.trans e144.symm)
            have e146 : y134 = p143.2.1 := congrArg (fun z => z.2.1) (hE141.trans e144.symm)
            have e147 : f135 = p143.2.2 := congrArg (fun z => z.2.2) (hE141.trans e144.symm)
            replace b137 : q_F (y133.toInt ≤ 220) := b137
            replace b138 : q_F (0 ≤ y134.toInt) := b138
            replace b139 : q_F (y134.toInt ≤ 1) := b139
            replace b140 : q_F (y134.toInt ≤ y133.toInt) := b140
            replace hF := q_uc hF hu142 (by simp)
            have hR148 := (show F_NH_makeWhole_c74_2 x2 x3 t0_0 t0_1 t1_0 t1_1 t2_0 t3_0 t4_0 t5_0 t5_1 t6_0 t7_0 t7_1 t8_0 t8_1 t9_0 j108 p143 = (F_NH_makeWhole x2 x3 t0_0 t0_1 t1_0 t1_1 t2_0 t3_0 t4_0 t5_0 t5_1 t6_0 t7_0 t7_1 t8_0 t8_1 t9_0) from (by have c127x := c127; rw [e120, ← e109] at c127x; rw [e144, ← e109, F_NH_makeWhole.eq_1, if_neg c38, if_neg c40, if_pos c47, if_neg c54, if_pos c127x]))
            have hS149 := (show True ∧ S_NH_makeWhole_c74_2 x2 x3 t0_0 t0_1 t1_0 t1_1 t2_0 t3_0 t4_0 t5_0 t5_1 t6_0 t7_0 t7_1 t8_0 t8_1 t9_0 j108 p143 from (by rw [e144, ← e109]; have h := hS; rw [S_NH_makeWhole.eq_1] at h; rw [if_neg c38] at h; rw [if_neg c40] at h; rw [if_pos c47] at h; rw [if_neg c54] at h; replace h := q_s2 h; replace h := q_s2 h; have c127x := c127; rw [e120, ← e109] at c127x; rw [if_pos c127x] at h; with_reducible exact h))
            exact q_retX (q_retv C0 V (⟨hI, hF, y133, y134, f135, hO132, hA136, (show 0 ≤ y133.toInt from (by have t1 : 0 ≤ y134.toInt := b138; have t2 : y134.toInt ≤ y133.toInt := b140; omega)), (show y133.toInt ≤ 220 from (by first | with_reducible exact q_fe b137 | (have t1 : y133.toInt ≤ 220 := b137; omega))), (show 0 ≤ y134.toInt from (by first | with_reducible exact q_fe b138 | (have t1 : 0 ≤ y134.toInt := b138; omega))), (show y134.toInt ≤ 1 from (by first | with_reducible exact q_fe b139 | (have t1 : y134.toInt ≤ 1 := b139; omega))), (show x3.toInt ≤ y133.toInt + 9 from (by have t1 : x3.toInt ≤ 9 := ob107; have t2 : 0 ≤ y134.toInt := b138; have t3 : y134.toInt ≤ y133.toInt := b140; omega)), (show y133.toInt ≤ x3.toInt + 220 from (by have t1 : 0 ≤ x3.toInt := ob106; have t2 : y133.toInt ≤ 220 := b137; omega)), (show x3.toInt ≤ y134.toInt + 9 from (by have t1 : x3.toInt ≤ 9 := ob107; have t2 : 0 ≤ y134.toInt := b138; omega)), (show y134.toInt ≤ x3.toInt + 1 from (by have t1 : 0 ≤ x3.toInt := ob106; have t2 : y134.toInt ≤ 1 := b139; omega)), (show ((0 : Int32), y133, y134, f135) = (F_NH_makeWhole x2 x3 t0_0 t0_1 t1_0 t1_1 t2_0 t3_0 t4_0 t5_0 t5_1 t6_0 t7_0 t7_1 t8_0 t8_1 t9_0) from Eq.trans (by rw [e147, e146, e145, F_NH_makeWhole_c74_2.eq_1]) hR148)⟩) d_1_25_77)
      ·
        have hr153 : a45 = q 35 := hr46.trans (congrArg q (by unfold F_NH_floatsOf; rw [if_neg c47]))
        subst hr153
        refine lv_astore_n (lv' := [(3, .ref (q 35)), (0, .ref (q 0)), (1, .int x2), (2, .int x3)]) hx hb d_1_25_52 rfl hl (by decide) rfl (fun ls hl => ?_)
        refine lv_aload_n hx hb d_1_25_53 rfl (lv_at hl 1 rfl) ?_
        refine lv_iload_n hx hb d_1_25_54 rfl (lv_at hl 2 rfl) ?_
        refine q_gor (post := fun r u => ws = u ∧ r = q (F_NH_floatRow x2)) V (q_runV (As := [.int x2]) (rest := []) (d := 1) (mc := 0) (ms := 0) (ci := 0) C0 V rfl LV_NH_157 (X_NH_floatRow l D g q ws  x2 hI   _) rfl rfl hO42 rfl hl.1 rfl (Nat.le_of_ble_eq_true rfl) ⟨by decide, by decide⟩ ⟨Nat.le_of_ble_eq_true rfl, Nat.le_of_ble_eq_true rfl⟩ d_1_25_55) (fun a157 u155 H locs hp156 V => ?_)
        obtain ⟨rfl, hr158⟩ := hp156
        by_cases c159 : x2 = (2 : Int32)
        ·
          have hr160 : a157 = q 7 := hr158.trans (congrArg q (by unfold F_NH_floatRow; rw [if_pos c159]))
          subst hr160
          refine lv_iload_n hx hb d_1_25_58 rfl (lv_at hl 3 rfl) ?_
          have ob162 : q_F (0 ≤ x3.toInt) := (by have h := hS; rw [S_NH_makeWhole.eq_1] at h; rw [if_neg c38] at h; rw [if_neg c40] at h; rw [if_neg c47] at h; rw [if_pos c159] at h; exact h.2.1)
          have ob163 : q_F (x3.toInt ≤ 9) := (by have h := hS; rw [S_NH_makeWhole.eq_1] at h; rw [if_neg c38] at h; rw [if_neg c40] at h; rw [if_neg c47] at h; rw [if_pos c159] at h; replace h := q_s2 h; exact h.2.1)
          refine q_lald C0 V hT3 (q_ix (x := x3.toInt) rfl (by first | with_reducible exact q_fe ob162 | (have t1 : 0 ≤ x3.toInt := ob162; omega)) (by have t1 : 0 ≤ x3.toInt := ob162; have t2 : x3.toInt ≤ 9 := ob163; omega)) d_1_25_59 ?_
          obtain ⟨j164, e165⟩ := q_nm (t3_0 x3.toNatClampNeg : Int64)
          refine q_tl (v := j164) e165 ?_
          refine lv_lstore (lv' := [(4, .long j164), (3, .ref (q 35)), (0, .ref (q 0)), (1, .int x2), (2, .int x3)]) hx hb d_1_25_60 hl (by decide) rfl (fun ls hl => ?_)
          refine lv_aload_n hx hb d_1_25_62 rfl (lv_at hl 1 rfl) ?_
          refine lv_lload hx hb d_1_25_63 (lv_at hl 0 rfl) ?_
          obtain ⟨y167, y168, y169, hO166⟩ := n_flO hI (n_f35 g q)
          refine q_goi V (q_runV (As := [.long j164]) (rest := []) (d := 2) (mc := 0) (ms := 0) (ci := 6) C0 V rfl LV_NH_179 (X_Flo_isFinite l D g q ws 35 23 150 255 (n_f35 g q) j164 hI   _) rfl rfl hO166 rfl hl.1 rfl (Nat.le_of_ble_eq_true rfl) ⟨by decide, by decide⟩ ⟨Nat.le_of_ble_eq_true rfl, Nat.le_of_ble_eq_true rfl⟩ d_1_25_65) (fun a172 u170 H locs hp171 V => ?_)
          obtain ⟨rfl, b173, b174, hE175⟩ := hp171
          have e176 : a172 = (F_Flo_isFinite (23 : Int32) (150 : Int32) (255 : Int32) j164) := hE175
          replace b173 : q_F (0 ≤ a172.toInt) := b173
          replace b174 : q_F (a172.toInt ≤ 1) := b174
          refine q_goxv V (q_runSX (As := [.int a172]) (rest := []) (d := 7) (mc := 1) (ms := 6) C0 V rfl LS_NH_138 (X_NH_canHave l D g q ws  a172 hlt hI  ⟨(by first | with_reducible exact q_fe b173 | (have t1 : 0 ≤ a172.toInt := b173; omega)), (by first | with_reducible exact q_fe b174 | (have t1 : a172.toInt ≤ 1 := b174; omega))⟩ _) rfl hl.1 rfl (Nat.le_of_ble_eq_true rfl) ⟨by decide, by decide⟩ ⟨Nat.le_of_ble_eq_true rfl, Nat.le_of_ble_eq_true rfl⟩ d_1_25_68) (fun qx Ex ce u177 H locs hp178 V hce hcv hcl => ?_) (fun u177 H locs hp178 V => ?_)
          ·
            obtain ⟨cx180, he181, hc182, rfl, hE179⟩ := hp178
            have c183 : ¬ (F_NH_canHave a172) = (0 : Int32) := fun z => hc182 (((hE179) : cx180 = _).trans z)
            exact q_outT hno C0 V (⟨(F_NH_canHave a172), (he181.trans (congrArg qE ((hE179) : cx180 = _))), c183, hI, hF, t1_0, t1_1, t2_0, hT1, hT2, (show ((F_NH_canHave a172), t1_0, t1_1, t2_0) = (F_NH_makeWhole x2 x3 t0_0 t0_1 t1_0 t1_1 t2_0 t3_0 t4_0 t5_0 t5_1 t6_0 t7_0 t7_1 t8_0 t8_1 t9_0) from (by have c183x := c183; rw [e176, ← e165] at c183x; rw [e176, ← e165, F_NH_makeWhole.eq_1, if_neg c38, if_neg c40, if_neg c47, if_pos c159, if_neg c183x]))⟩) hce hcv hcl (Nat.le_of_ble_eq_true rfl) (Nat.le_of_ble_eq_true rfl)
          ·
            obtain ⟨rfl, hE184⟩ := hp178
            have c183 : (F_NH_canHave a172) = (0 : Int32) := ((hE184) : (0 : Int32) = _).symm
            refine lv_aload_n hx hb d_1_25_71 rfl (lv_at hl 1 rfl) ?_
            refine lv_lload hx hb d_1_25_72 (lv_at hl 0 rfl) ?_
            refine q_gov V (q_runV (As := [.long j164]) (rest := []) (d := 4) (mc := 0) (ms := 0) (ci := 6) C0 V rfl LV_NH_403 (X_Flo_towardsZero l D g q ws 35 23 150 255 (n_f35 g q) j164 hI t1_0 t1_1 hT1 t2_0 hT2  _) rfl rfl hO166 rfl hl.1 rfl (Nat.le_of_ble_eq_true rfl) ⟨by decide, by decide⟩ ⟨Nat.le_of_ble_eq_true rfl, Nat.le_of_ble_eq_true rfl⟩ d_1_25_74) (fun u186 H locs hp187 V => ?_)
            obtain ⟨hI, hZ9⟩ := hp187
            obtain ⟨hu198, hZ9⟩ := hZ9
            obtain ⟨y189, hZ9⟩ := hZ9
            obtain ⟨y190, hZ9⟩ := hZ9
            obtain ⟨f191, hZ9⟩ := hZ9
            obtain ⟨hO188, hZ9⟩ := hZ9
            obtain ⟨hA192, hZ9⟩ := hZ9
            obtain ⟨b193, hZ9⟩ := hZ9
            obtain ⟨b194, hZ9⟩ := hZ9
            obtain ⟨b195, hZ9⟩ := hZ9
            obtain ⟨b196, hE197⟩ := hZ9
            replace hO188 : u186[10]? = (some (q 10, .inr (2, [.ref (q 11), .int y189, .int y190])) : Option (Nat × va_E)) := hO188
            replace hA192 : u186[11]? = (some (q 11, .inl (g 0, (220 : Int32).toNatClampNeg, .inl f191)) : Option (Nat × va_E)) := hA192
            obtain ⟨p199, e200⟩ : ∃ z, z = (F_Flo_towardsZero (23 : Int32) (150 : Int32) (255 : Int32) j164 t1_0 t1_1 t2_0) := ⟨_, rfl⟩
            have e201 : y189 = p199.1 := congrArg (fun z => z.1) (hE197.trans e200.symm)
            have e202 : y190 = p199.2.1 := congrArg (fun z => z.2.1) (hE197.trans e200.symm)
            have e203 : f191 = p199.2.2 := congrArg (fun z => z.2.2) (hE197.trans e200.symm)
            replace b193 : q_F (y189.toInt ≤ 220) := b193
            replace b194 : q_F (0 ≤ y190.toInt) := b194
            replace b195 : q_F (y190.toInt ≤ 1) := b195
            replace b196 : q_F (y190.toInt ≤ y189.toInt) := b196
            replace hF := q_uc hF hu198 (by simp)
            have hR204 := (show F_NH_makeWhole_c74_3 x2 x3 t0_0 t0_1 t1_0 t1_1 t2_0 t3_0 t4_0 t5_0 t5_1 t6_0 t7_0 t7_1 t8_0 t8_1 t9_0 j164 p199 = (F_NH_makeWhole x2 x3 t0_0 t0_1 t1_0 t1_1 t2_0 t3_0 t4_0 t5_0 t5_1 t6_0 t7_0 t7_1 t8_0 t8_1 t9_0) from (by have c183x := c183; rw [e176, ← e165] at c183x; rw [e200, ← e165, F_NH_makeWhole.eq_1, if_neg c38, if_neg c40, if_neg c47, if_pos c159, if_pos c183x]))
            have hS205 := (show True ∧ S_NH_makeWhole_c74_3 x2 x3 t0_0 t0_1 t1_0 t1_1 t2_0 t3_0 t4_0 t5_0 t5_1 t6_0 t7_0 t7_1 t8_0 t8_1 t9_0 j164 p199 from (by rw [e200, ← e165]; have h := hS; rw [S_NH_makeWhole.eq_1] at h; rw [if_neg c38] at h; rw [if_neg c40] at h; rw [if_neg c47] at h; rw [if_pos c159] at h; replace h := q_s2 h; replace h := q_s2 h; have c183x := c183; rw [e176, ← e165] at c183x; rw [if_pos c183x] at h; with_reducible exact h))
            exact q_retX (q_retv C0 V (⟨hI, hF, y189, y190, f191, hO188, hA192, (show 0 ≤ y189.toInt from (by have t1 : 0 ≤ y190.toInt := b194; have t2 : y190.toInt ≤ y189.toInt := b196; omega)), (show y189.toInt ≤ 220 from (by first | with_reducible exact q_fe b193 | (have t1 : y189.toInt ≤ 220 := b193; omega))), (show 0 ≤ y190.toInt from (by first | with_reducible exact q_fe b194 | (have t1 : 0 ≤ y190.toInt := b194; omega))), (show y190.toInt ≤ 1 from (by first | with_reducible exact q_fe b195 | (have t1 : y190.toInt ≤ 1 := b195; omega))), (show x3.toInt ≤ y189.toInt + 9 from (by have t1 : x3.toInt ≤ 9 := ob163; have t2 : 0 ≤ y190.toInt := b194; have t3 : y190.toInt ≤ y189.toInt := b196; omega)), (show y189.toInt ≤ x3.toInt + 220 from (by have t1 : 0 ≤ x3.toInt := ob162; have t2 : y189.toInt ≤ 220 := b193; omega)), (show x3.toInt ≤ y190.toInt + 9 from (by have t1 : x3.toInt ≤ 9 := ob163; have t2 : 0 ≤ y190.toInt := b194; omega)), (show y190.toInt ≤ x3.toInt + 1 from (by have t1 : 0 ≤ x3.toInt := ob162; have t2 : y190.toInt ≤ 1 := b195; omega)), (show ((0 : Int32), y189, y190, f191) = (F_NH_makeWhole x2 x3 t0_0 t0_1 t1_0 t1_1 t2_0 t3_0 t4_0 t5_0 t5_1 t6_0 t7_0 t7_1 t8_0 t8_1 t9_0) from Eq.trans (by rw [e203, e202, e201, F_NH_makeWhole_c74_3.eq_1]) hR204)⟩) d_1_25_77)
        ·
          have hr209 : a157 = q 8 := hr158.trans (congrArg q (by unfold F_NH_floatRow; rw [if_neg c159]))
          subst hr209
          refine lv_iload_n hx hb d_1_25_58 rfl (lv_at hl 3 rfl) ?_
          have ob211 : q_F (0 ≤ x3.toInt) := (by have h := hS; rw [S_NH_makeWhole.eq_1] at h; rw [if_neg c38] at h; rw [if_neg c40] at h; rw [if_neg c47] at h; rw [if_neg c159] at h; exact h.2.1)
          have ob212 : q_F (x3.toInt ≤ 9) := (by have h := hS; rw [S_NH_makeWhole.eq_1] at h; rw [if_neg c38] at h; rw [if_neg c40] at h; rw [if_neg c47] at h; rw [if_neg c159] at h; replace h := q_s2 h; exact h.2.1)
          refine q_lald C0 V hT4 (q_ix (x := x3.toInt) rfl (by first | with_reducible exact q_fe ob211 | (have t1 : 0 ≤ x3.toInt := ob211; omega)) (by have t1 : 0 ≤ x3.toInt := ob211; have t2 : x3.toInt ≤ 9 := ob212; omega)) d_1_25_59 ?_
          obtain ⟨j213, e214⟩ := q_nm (t4_0 x3.toNatClampNeg : Int64)
          refine q_tl (v := j213) e214 ?_
          refine lv_lstore (lv' := [(4, .long j213), (3, .ref (q 35)), (0, .ref (q 0)), (1, .int x2), (2, .int x3)]) hx hb d_1_25_60 hl (by decide) rfl (fun ls hl => ?_)
          refine lv_aload_n hx hb d_1_25_62 rfl (lv_at hl 1 rfl) ?_
          refine lv_lload hx hb d_1_25_63 (lv_at hl 0 rfl) ?_
          obtain ⟨y216, y217, y218, hO215⟩ := n_flO hI (n_f35 g q)
          refine q_goi V (q_runV (As := [.long j213]) (rest := []) (d := 2) (mc := 0) (ms := 0) (ci := 6) C0 V rfl LV_NH_179 (X_Flo_isFinite l D g q ws 35 23 150 255 (n_f35 g q) j213 hI   _) rfl rfl hO215 rfl hl.1 rfl (Nat.le_of_ble_eq_true rfl) ⟨by decide, by decide⟩ ⟨Nat.le_of_ble_eq_true rfl, Nat.le_of_ble_eq_true rfl⟩ d_1_25_65) (fun a221 u219 H locs hp220 V => ?_)
          obtain ⟨rfl, b222, b223, hE224⟩ := hp220
          have e225 : a221 = (F_Flo_isFinite (23 : Int32) (150 : Int32) (255 : Int32) j213) := hE224
          replace b222 : q_F (0 ≤ a221.toInt) := b222
          replace b223 : q_F (a221.toInt ≤ 1) := b223
          refine q_goxv V (q_runSX (As := [.int a221]) (rest := []) (d := 7) (mc := 1) (ms := 6) C0 V rfl LS_NH_138 (X_NH_canHave l D g q ws  a221 hlt hI  ⟨(by first | with_reducible exact q_fe b222 | (have t1 : 0 ≤ a221.toInt := b222; omega)), (by first | with_reducible exact q_fe b223 | (have t1 : a221.toInt ≤ 1 := b223; omega))⟩ _) rfl hl.1 rfl (Nat.le_of_ble_eq_true rfl) ⟨by decide, by decide⟩ ⟨Nat.le_of_ble_eq_true rfl, Nat.le_of_ble_eq_true rfl⟩ d_1_25_68) (fun qx Ex ce u226 H locs hp227 V hce hcv hcl => ?_) (fun u226 H locs hp227 V => ?_)
          ·
            obtain ⟨cx229, he230, hc231, rfl, hE228⟩ := hp227
            have c232 : ¬ (F_NH_canHave a221) = (0 : Int32) := fun z => hc231 (((hE228) : cx229 = _).trans z)
            exact q_outT hno C0 V (⟨(F_NH_canHave a221), (he230.trans (congrArg qE ((hE228) : cx229 = _))), c232, hI, hF, t1_0, t1_1, t2_0, hT1, hT2, (show ((F_NH_canHave a221), t1_0, t1_1, t2_0) = (F_NH_makeWhole x2 x3 t0_0 t0_1 t1_0 t1_1 t2_0 t3_0 t4_0 t5_0 t5_1 t6_0 t7_0 t7_1 t8_0 t8_1 t9_0) from (by have c232x := c232; rw [e225, ← e214] at c232x; rw [e225, ← e214, F_NH_makeWhole.eq_1, if_neg c38, if_neg c40, if_neg c47, if_neg c159, if_neg c232x]))⟩) hce hcv hcl (Nat.le_of_ble_eq_true rfl) (Nat.le_of_ble_eq_true rfl)
          ·
            obtain ⟨rfl, hE233⟩ := hp227
            have c232 : (F_NH_canHave a221) = (0 : Int32) := ((hE233) : (0 : Int32) = _).symm
            refine lv_aload_n hx hb d_1_25_71 rfl (lv_at hl 1 rfl) ?_
            refine lv_lload hx hb d_1_25_72 (lv_at hl 0 rfl) ?_
            refine q_gov V (q_runV (As := [.long j213]) (rest := []) (d := 4) (mc := 0) (ms := 0) (ci := 6) C0 V rfl LV_NH_403 (X_Flo_towardsZero l D g q ws 35 23 150 255 (n_f35 g q) j213 hI t1_0 t1_1 hT1 t2_0 hT2  _) rfl rfl hO215 rfl hl.1 rfl (Nat.le_of_ble_eq_true rfl) ⟨by decide, by decide⟩ ⟨Nat.le_of_ble_eq_true rfl, Nat.le_of_ble_eq_true rfl⟩ d_1_25_74) (fun u235 H locs hp236 V => ?_)
            obtain ⟨hI, hZ9⟩ := hp236
            obtain ⟨hu247, hZ9⟩ := hZ9
            obtain ⟨y238, hZ9⟩ := hZ9
            obtain ⟨y239, hZ9⟩ := hZ9
            obtain ⟨f240, hZ9⟩ := hZ9
            obtain ⟨hO237, hZ9⟩ := hZ9
            obtain ⟨hA241, hZ9⟩ := hZ9
            obtain ⟨b242, hZ9⟩ := hZ9
            obtain ⟨b243, hZ9⟩ := hZ9
            obtain ⟨b244, hZ9⟩ := hZ9
            obtain ⟨b245, hE246⟩ := hZ9
            replace hO237 : u235[10]? = (some (q 10, .inr (2, [.ref (q 11), .int y238, .int y239])) : Option (Nat × va_E)) := hO237
            replace hA241 : u235[11]? = (some (q 11, .inl (g 0, (220 : Int32).toNatClampNeg, .inl f240)) : Option (Nat × va_E)) := hA241
            obtain ⟨p248, e249⟩ : ∃ z, z = (F_Flo_towardsZero (23 : Int32) (150 : Int32) (255 : Int32) j213 t1_0 t1_1 t2_0) := ⟨_, rfl⟩
            have e250 : y238 = p248.1 := congrArg (fun z => z.1) (hE246.trans e249.symm)
            have e251 : y239 = p248.2.1 := congrArg (fun z => z.2.1) (hE246.trans e249.symm)
            have e252 : f240 = p248.2.2 := congrArg (fun z => z.2.2) (hE246.trans e249.symm)
            replace b242 : q_F (y238.toInt ≤ 220) := b242
            replace b243 : q_F (0 ≤ y239.toInt) := b243
            replace b244 : q_F (y239.toInt ≤ 1) := b244
            replace b245 : q_F (y239.toInt ≤ y238.toInt) := b245
            replace hF := q_uc hF hu247 (by simp)
            have hR253 := (show F_NH_makeWhole_c74_4 x2 x3 t0_0 t0_1 t1_0 t1_1 t2_0 t3_0 t4_0 t5_0 t5_1 t6_0 t7_0 t7_1 t8_0 t8_1 t9_0 j213 p248 = (F_NH_makeWhole x2 x3 t0_0 t0_1 t1_0 t1_1 t2_0 t3_0 t4_0 t5_0 t5_1 t6_0 t7_0 t7_1 t8_0 t8_1 t9_0) from (by have c232x := c232; rw [e225, ← e214] at c232x; rw [e249, ← e214, F_NH_makeWhole.eq_1, if_neg c38, if_neg c40, if_neg c47, if_neg c159, if_pos c232x]))
            have hS254 := (show True ∧ S_NH_makeWhole_c74_4 x2 x3 t0_0 t0_1 t1_0 t1_1 t2_0 t3_0 t4_0 t5_0 t5_1 t6_0 t7_0 t7_1 t8_0 t8_1 t9_0 j213 p248 from (by rw [e249, ← e214]; have h := hS; rw [S_NH_makeWhole.eq_1] at h; rw [if_neg c38] at h; rw [if_neg c40] at h; rw [if_neg c47] at h; rw [if_neg c159] at h; replace h := q_s2 h; replace h := q_s2 h; have c232x := c232; rw [e225, ← e214] at c232x; rw [if_pos c232x] at h; with_reducible exact h))
            exact q_retX (q_retv C0 V (⟨hI, hF, y238, y239, f240, hO237, hA241, (show 0 ≤ y238.toInt from (by have t1 : 0 ≤ y239.toInt := b243; have t2 : y239.toInt ≤ y238.toInt := b245; omega)), (show y238.toInt ≤ 220 from (by first | with_reducible exact q_fe b242 | (have t1 : y238.toInt ≤ 220 := b242; omega))), (show 0 ≤ y239.toInt from (by first | with_reducible exact q_fe b243 | (have t1 : 0 ≤ y239.toInt := b243; omega))), (show y239.toInt ≤ 1 from (by first | with_reducible exact q_fe b244 | (have t1 : y239.toInt ≤ 1 := b244; omega))), (show x3.toInt ≤ y238.toInt + 9 from (by have t1 : x3.toInt ≤ 9 := ob212; have t2 : 0 ≤ y239.toInt := b243; have t3 : y239.toInt ≤ y238.toInt := b245; omega)), (show y238.toInt ≤ x3.toInt + 220 from (by have t1 : 0 ≤ x3.toInt := ob211; have t2 : y238.toInt ≤ 220 := b242; omega)), (show x3.toInt ≤ y239.toInt + 9 from (by have t1 : x3.toInt ≤ 9 := ob212; have t2 : 0 ≤ y239.toInt := b243; omega)), (show y239.toInt ≤ x3.toInt + 1 from (by have t1 : 0 ≤ x3.toInt := ob211; have t2 : y239.toInt ≤ 1 := b244; omega)), (show ((0 : Int32), y238, y239, f240) = (F_NH_makeWhole x2 x3 t0_0 t0_1 t1_0 t1_1 t2_0 t3_0 t4_0 t5_0 t5_1 t6_0 t7_0 t7_1 t8_0 t8_1 t9_0) from Eq.trans (by rw [e252, e251, e250, F_NH_makeWhole_c74_4.eq_1]) hR253)⟩) d_1_25_77)
    ·
      refine lv_aload_n hx hb d_1_25_28 rfl (lv_at hl 0 rfl) ?_
      have hO259 := n_o0 hI
      refine q_get (ci := 0) (j := 7) (v := .ref (q 30)) C0 V i_NH rfl rfl hO259 (by decide) w_431 rfl d_1_25_29 ?_
      refine lv_aload_n hx hb d_1_25_32 rfl (lv_at hl 0 rfl) ?_
      refine q_get (ci := 0) (j := 3) (v := .ref (q 6)) C0 V i_NH rfl rfl hO259 (by decide) w_427 rfl d_1_25_33 ?_
      refine lv_iload_n hx hb d_1_25_36 rfl (lv_at hl 2 rfl) ?_
      have hX260 := n_fx hI (n_s6 g q)
      have ob261 : q_F (0 ≤ x3.toInt) := (by have h := hS; rw [S_NH_makeWhole.eq_1] at h; rw [if_neg c38] at h; rw [if_pos c40] at h; exact h.2.1)
      have ob262 : q_F (x3.toInt ≤ 9) := (by have h := hS; rw [S_NH_makeWhole.eq_1] at h; rw [if_neg c38] at h; rw [if_pos c40] at h; replace h := q_s2 h; exact h.2.1)
      have hj263 : x3.toNatClampNeg < 10 := by have z := q_clI (i := x3) (x := x3.toInt) rfl (by first | with_reducible exact q_fe ob261 | (have t1 : 0 ≤ x3.toInt := ob261; omega)); have t1 : 0 ≤ x3.toInt := ob261; have t2 : x3.toInt ≤ 9 := ob262; omega
      have hq264 := gd3x3 hj263
      refine q_aald (t := 5) (q := q d3) C0 V hX260 rfl (q_ix (x := x3.toInt) rfl (by first | with_reducible exact q_fe ob261 | (have t1 : 0 ≤ x3.toInt := ob261; omega)) (by have t1 : 0 ≤ x3.toInt := ob261; have t2 : x3.toInt ≤ 9 := ob262; omega)) (by rw [hq264]; exact n_fdv hj263) d_1_25_37 ?_
      refine q_goi V (q_runV (As := [.ref (q d3)]) (rest := []) (d := 4) (mc := 0) (ms := 0) (ci := 5) C0 V rfl LV_NH_400 (X_DW_towardsZero l D g q ws d3 108 hBd3 (Or.inr yd3)  (by have z0 := yd3; omega) (by have z0 := yd3; omega) (by have z0 := yd3; omega) (by have z0 := yd3; omega) (by have z0 := yd3; omega) (by have z0 := yd3; omega) (by have z0 := yd3; omega) (by have z0 := yd3; omega) hI t0_0 t0_1 hT0 t1_0 t1_1 hT1 t2_0 hT2 t7_0 t7_1 hT7 t8_0 t8_1 hT8 t9_0 hT9  _) rfl rfl hT0 rfl hl.1 rfl (Nat.le_of_ble_eq_true rfl) ⟨by decide, by decide⟩ ⟨Nat.le_of_ble_eq_true rfl, Nat.le_of_ble_eq_true rfl⟩ d_1_25_38) (fun a267 u265 H locs hp266 V => ?_)
      obtain ⟨hI, hZ9⟩ := hp266
      obtain ⟨hu282, hZ9⟩ := hZ9
      obtain ⟨y269, hZ9⟩ := hZ9
      obtain ⟨y270, hZ9⟩ := hZ9
      obtain ⟨f271, hZ9⟩ := hZ9
      obtain ⟨hO268, hZ9⟩ := hZ9
      obtain ⟨hA272, hZ9⟩ := hZ9
      obtain ⟨b273, hZ9⟩ := hZ9
      obtain ⟨b274, hZ9⟩ := hZ9
      obtain ⟨b275, hZ9⟩ := hZ9
      obtain ⟨b276, hZ9⟩ := hZ9
      obtain ⟨b277, hZ9⟩ := hZ9
      replace hZ9 := hZ9.2.2
      obtain ⟨b280, hE281⟩ := hZ9
      replace hO268 : u265[10]? = (some (q 10, .inr (2, [.ref (q 11), .int y269, .int y270])) : Option (Nat × va_E)) := hO268
      replace hA272 : u265[11]? = (some (q 11, .inl (g 0, (220 : Int32).toNatClampNeg, .inl f271)) : Option (Nat × va_E)) := hA272
      obtain ⟨p283, e284⟩ : ∃ z, z = (F_DW_towardsZero (108 : Int32) t0_0 t0_1 t1_0 t1_1 t2_0 t7_0 t7_1 t8_0 t8_1 t9_0) := ⟨_, rfl⟩
      have e285 : a267 = p283.1 := congrArg (fun z => z.1) (hE281.trans e284.symm)
      have e286 : y269 = p283.2.1 := congrArg (fun z => z.2.1) (hE281.trans e284.symm)
      have e287 : y270 = p283.2.2.1 := congrArg (fun z => z.2.2.1) (hE281.trans e284.symm)
      have e288 : f271 = p283.2.2.2 := congrArg (fun z => z.2.2.2) (hE281.trans e284.symm)
      replace b273 : q_F (0 ≤ a267.toInt) := b273
      replace b274 : q_F (a267.toInt ≤ 1) := b274
      replace b275 : q_F (0 ≤ y269.toInt) := b275
      replace b276 : q_F (y269.toInt ≤ 220) := b276
      replace b277 : q_F (0 ≤ y270.toInt) := b277
      replace b280 : q_F (y270.toInt ≤ t8_1.toInt) := b280
      replace hF := q_uc hF hu282 (by simp)
      have hR289 := (show F_NH_makeWhole_c38 x2 x3 t0_0 t0_1 t1_0 t1_1 t2_0 t3_0 t4_0 t5_0 t5_1 t6_0 t7_0 t7_1 t8_0 t8_1 t9_0 p283 = (F_NH_makeWhole x2 x3 t0_0 t0_1 t1_0 t1_1 t2_0 t3_0 t4_0 t5_0 t5_1 t6_0 t7_0 t7_1 t8_0 t8_1 t9_0) from (by rw [e284, F_NH_makeWhole.eq_1, if_neg c38, if_pos c40]))
      have hS290 := (show True ∧ S_NH_makeWhole_c38 x2 x3 t0_0 t0_1 t1_0 t1_1 t2_0 t3_0 t4_0 t5_0 t5_1 t6_0 t7_0 t7_1 t8_0 t8_1 t9_0 p283 from (by rw [e284]; have h := hS; rw [S_NH_makeWhole.eq_1] at h; rw [if_neg c38] at h; rw [if_pos c40] at h; replace h := q_s2 h; replace h := q_s2 h; with_reducible exact h))
      refine q_goxv V (q_runSX (As := [.int a267]) (rest := []) (d := 7) (mc := 1) (ms := 6) C0 V rfl LS_NH_138 (X_NH_canHave l D g q u265  a267 hlt hI  ⟨(by first | with_reducible exact q_fe b273 | (have t1 : 0 ≤ a267.toInt := b273; omega)), (by first | with_reducible exact q_fe b274 | (have t1 : a267.toInt ≤ 1 := b274; omega))⟩ _) rfl hl.1 rfl (Nat.le_of_ble_eq_true rfl) ⟨by decide, by decide⟩ ⟨Nat.le_of_ble_eq_true rfl, Nat.le_of_ble_eq_true rfl⟩ d_1_25_41) (fun qx Ex ce u294 H locs hp295 V hce hcv hcl => ?_) (fun u294 H locs hp295 V => ?_)
      ·
        obtain ⟨cx297, he298, hc299, rfl, hE296⟩ := hp295
        have c300 : ¬ (F_NH_canHave a267) = (0 : Int32) := fun z => hc299 (((hE296) : cx297 = _).trans z)
        exact q_outT hno C0 V (⟨(F_NH_canHave a267), (he298.trans (congrArg qE ((hE296) : cx297 = _))), c300, hI, hF, y269, y270, f271, hO268, hA272, (show ((F_NH_canHave a267), y269, y270, f271) = (F_NH_makeWhole x2 x3 t0_0 t0_1 t1_0 t1_1 t2_0 t3_0 t4_0 t5_0 t5_1 t6_0 t7_0 t7_1 t8_0 t8_1 t9_0) from Eq.trans (by have c300x := c300; rw [e285] at c300x; rw [e288, e287, e286, e285, F_NH_makeWhole_c38.eq_1, if_neg c300x]) hR289)⟩) hce hcv hcl (Nat.le_of_ble_eq_true rfl) (Nat.le_of_ble_eq_true rfl)
      ·
        obtain ⟨rfl, hE301⟩ := hp295
        have c300 : (F_NH_canHave a267) = (0 : Int32) := ((hE301) : (0 : Int32) = _).symm
        refine lv_goto (tgt := 77) hx hb d_1_25_44 (by decide) ?_
        exact q_retX (q_retv C0 V (⟨hI, hF, y269, y270, f271, hO268, hA272, (show 0 ≤ y269.toInt from (by first | with_reducible exact q_fe b275 | (have t1 : 0 ≤ y269.toInt := b275; omega))), (show y269.toInt ≤ 220 from (by first | with_reducible exact q_fe b276 | (have t1 : y269.toInt ≤ 220 := b276; omega))), (show 0 ≤ y270.toInt from (by first | with_reducible exact q_fe b277 | (have t1 : 0 ≤ y270.toInt := b277; omega))), (show y270.toInt ≤ 1 from (by have t1 : 0 ≤ t8_1.toInt ∧ t8_1.toInt ≤ 1 := btt8_1; have t2 : y270.toInt ≤ t8_1.toInt := b280; omega)), (show x3.toInt ≤ y269.toInt + 9 from (by have t1 : x3.toInt ≤ 9 := ob262; have t2 : 0 ≤ y269.toInt := b275; omega)), (show y269.toInt ≤ x3.toInt + 220 from (by have t1 : 0 ≤ x3.toInt := ob261; have t2 : y269.toInt ≤ 220 := b276; omega)), (show x3.toInt ≤ y270.toInt + 9 from (by have t1 : x3.toInt ≤ 9 := ob262; have t2 : 0 ≤ y270.toInt := b277; omega)), (show y270.toInt ≤ x3.toInt + 1 from (by have t1 : 0 ≤ t8_1.toInt ∧ t8_1.toInt ≤ 1 := btt8_1; have t2 : 0 ≤ x3.toInt := ob261; have t3 : y270.toInt ≤ t8_1.toInt := b280; omega)), (show ((0 : Int32), y269, y270, f271) = (F_NH_makeWhole x2 x3 t0_0 t0_1 t1_0 t1_1 t2_0 t3_0 t4_0 t5_0 t5_1 t6_0 t7_0 t7_1 t8_0 t8_1 t9_0) from Eq.trans (by have c300x := c300; rw [e285] at c300x; rw [e288, e287, e286, F_NH_makeWhole_c38.eq_1, if_pos c300x]) hR289)⟩) d_1_25_77)
  ·
    refine lv_aload_n hx hb d_1_25_4 rfl (lv_at hl 0 rfl) ?_
    have hO304 := n_o0 hI
    refine q_get (ci := 0) (j := 6) (v := .ref (q 9)) C0 V i_NH rfl rfl hO304 (by decide) w_430 rfl d_1_25_5 ?_
    have hO305 := n_o9 hI
    refine q_get (ci := 4) (j := 0) (v := .ref (q 10)) C0 V i_Mil rfl rfl hO305 (by decide) w_112 rfl d_1_25_8 ?_
    refine lv_aload_n hx hb d_1_25_11 rfl (lv_at hl 0 rfl) ?_
    refine q_get (ci := 0) (j := 2) (v := .ref (q 5)) C0 V i_NH rfl rfl hO304 (by decide) w_426 rfl d_1_25_12 ?_
    refine lv_iload_n hx hb d_1_25_15 rfl (lv_at hl 2 rfl) ?_
    have hX306 := n_fx hI (n_s5 g q)
    have ob307 : q_F (0 ≤ x3.toInt) := (by have h := hS; rw [S_NH_makeWhole.eq_1] at h; rw [if_pos c38] at h; exact h.2.1)
    have ob308 : q_F (x3.toInt ≤ 9) := (by have h := hS; rw [S_NH_makeWhole.eq_1] at h; rw [if_pos c38] at h; replace h := q_s2 h; exact h.2.1)
    have hj309 : x3.toNatClampNeg < 10 := by have z := q_clI (i := x3) (x := x3.toInt) rfl (by first | with_reducible exact q_fe ob307 | (have t1 : 0 ≤ x3.toInt := ob307; omega)); have t1 : 0 ≤ x3.toInt := ob307; have t2 : x3.toInt ≤ 9 := ob308; omega
    have hq310 := gk3x3 hj309
    refine q_aald (t := 4) (q := q k3) C0 V hX306 rfl (q_ix (x := x3.toInt) rfl (by first | with_reducible exact q_fe ob307 | (have t1 : 0 ≤ x3.toInt := ob307; omega)) (by have t1 : 0 ≤ x3.toInt := ob307; have t2 : x3.toInt ≤ 9 := ob308; omega)) (by rw [hq310]; exact n_fwv hj309) d_1_25_16 ?_
    refine q_gov V (q_runV (As := [.ref (q k3)]) (rest := []) (d := 2) (mc := 0) (ms := 0) (ci := 2) C0 V rfl LV_NH_145 (X_Big_copy l D g q ws 10 220 (n_b10 g q) (by decide) k3 68 hBk3 (Or.inr yk3)  (by have z0 := yk3; omega) hI t1_0 t1_1 hT1 t2_0 hT2 t5_0 t5_1 hT5 t6_0 hT6  _) rfl rfl hT1 rfl hl.1 rfl (Nat.le_of_ble_eq_true rfl) ⟨by decide, by decide⟩ ⟨Nat.le_of_ble_eq_true rfl, Nat.le_of_ble_eq_true rfl⟩ d_1_25_17) (fun u311 H locs hp312 V => ?_)
    obtain ⟨hI, hZ9⟩ := hp312
    obtain ⟨hu324, hZ9⟩ := hZ9
    obtain ⟨y314, hZ9⟩ := hZ9
    obtain ⟨y315, hZ9⟩ := hZ9
    obtain ⟨f316, hZ9⟩ := hZ9
    obtain ⟨hO313, hZ9⟩ := hZ9
    obtain ⟨hA317, hZ9⟩ := hZ9
    obtain ⟨b318, hZ9⟩ := hZ9
    replace hZ9 := hZ9.2
    obtain ⟨b320, hZ9⟩ := hZ9
    obtain ⟨b321, hZ9⟩ := hZ9
    obtain ⟨b322, hE323⟩ := hZ9
    replace hO313 : u311[10]? = (some (q 10, .inr (2, [.ref (q 11), .int y314, .int y315])) : Option (Nat × va_E)) := hO313
    replace hA317 : u311[11]? = (some (q 11, .inl (g 0, (220 : Int32).toNatClampNeg, .inl f316)) : Option (Nat × va_E)) := hA317
    obtain ⟨p325, e326⟩ : ∃ z, z = (F_Big_copy (220 : Int32) (68 : Int32) t1_0 t1_1 t2_0 t5_0 t5_1 t6_0) := ⟨_, rfl⟩
    have e327 : y314 = p325.1 := congrArg (fun z => z.1) (hE323.trans e326.symm)
    have e328 : y315 = p325.2.1 := congrArg (fun z => z.2.1) (hE323.trans e326.symm)
    have e329 : f316 = p325.2.2 := congrArg (fun z => z.2.2) (hE323.trans e326.symm)
    replace b318 : q_F (0 ≤ y314.toInt) := b318
    replace b320 : q_F (y314.toInt ≤ 220) := b320
    replace b321 : q_F (t5_1.toInt ≤ y315.toInt) := b321
    replace b322 : q_F (y315.toInt ≤ t5_1.toInt) := b322
    replace hF := q_uc hF hu324 (by simp)
    have hR330 := (show F_NH_makeWhole_c17 x2 x3 t0_0 t0_1 t1_0 t1_1 t2_0 t3_0 t4_0 t5_0 t5_1 t6_0 t7_0 t7_1 t8_0 t8_1 t9_0 p325 = (F_NH_makeWhole x2 x3 t0_0 t0_1 t1_0 t1_1 t2_0 t3_0 t4_0 t5_0 t5_1 t6_0 t7_0 t7_1 t8_0 t8_1 t9_0) from (by rw [e326, F_NH_makeWhole.eq_1, if_pos c38]))
    have hS331 := (show True ∧ S_NH_makeWhole_c17 x2 x3 t0_0 t0_1 t1_0 t1_1 t2_0 t3_0 t4_0 t5_0 t5_1 t6_0 t7_0 t7_1 t8_0 t8_1 t9_0 p325 from (by rw [e326]; have h := hS; rw [S_NH_makeWhole.eq_1] at h; rw [if_pos c38] at h; replace h := q_s2 h; replace h := q_s2 h; with_reducible exact h))
    refine lv_goto (tgt := 77) hx hb d_1_25_20 (by decide) ?_
    refine W.widen (k := 1) (n := 6) (Nat.le_of_ble_eq_true rfl) (Nat.le_of_ble_eq_true rfl) ?_
    exact q_retX (q_retv C0 V (⟨hI, hF, y314, y315, f316, hO313, hA317, (show 0 ≤ y314.toInt from (by first | with_reducible exact q_fe b318 | (have t1 : 0 ≤ y314.toInt := b318; omega))), (show y314.toInt ≤ 220 from (by first | with_reducible exact q_fe b320 | (have t1 : y314.toInt ≤ 220 := b320; omega))), (show 0 ≤ y315.toInt from (by have t1 : 0 ≤ t5_1.toInt ∧ t5_1.toInt ≤ 1 := btt5_1; have t2 : t5_1.toInt ≤ y315.toInt := b321; omega)), (show y315.toInt ≤ 1 from (by have t1 : 0 ≤ t5_1.toInt ∧ t5_1.toInt ≤ 1 := btt5_1; have t2 : y315.toInt ≤ t5_1.toInt := b322; omega)), (show x3.toInt ≤ y314.toInt + 9 from (by have t1 : x3.toInt ≤ 9 := ob308; have t2 : 0 ≤ y314.toInt := b318; omega)), (show y314.toInt ≤ x3.toInt + 220 from (by have t1 : 0 ≤ x3.toInt := ob307; have t2 : y314.toInt ≤ 220 := b320; omega)), (show x3.toInt ≤ y315.toInt + 9 from (by have t1 : 0 ≤ t5_1.toInt ∧ t5_1.toInt ≤ 1 := btt5_1; have t2 : x3.toInt ≤ 9 := ob308; have t3 : t5_1.toInt ≤ y315.toInt := b321; omega)), (show y315.toInt ≤ x3.toInt + 1 from (by have t1 : 0 ≤ t5_1.toInt ∧ t5_1.toInt ≤ 1 := btt5_1; have t2 : 0 ≤ x3.toInt := ob307; have t3 : y315.toInt ≤ t5_1.toInt := b322; omega)), (show ((0 : Int32), y314, y315, f316) = (F_NH_makeWhole x2 x3 t0_0 t0_1 t1_0 t1_1 t2_0 t3_0 t4_0 t5_0 t5_1 t6_0 t7_0 t7_1 t8_0 t8_1 t9_0) from Eq.trans (by rw [e329, e328, e327, F_NH_makeWhole_c17.eq_1]) hR330)⟩) d_1_25_77)

