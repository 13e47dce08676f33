/-! NumberHouse, exactly: i.decimal_bt -/
def F_NH_decimal_bt_c139 (x2 : Int32) (x3 : Int32) (x4 : Int32) (x5 : Int32) (t0_0 : Int64) (t0_1 : Int32) (t1_0 : Int32) (t1_1 : Int32) (t2_0 : (Nat → Int32)) (t3_0 : Int32) (t3_1 : Int32) (t4_0 : (Nat → Int32)) (t5_0 : Int32) (t5_1 : Int32) (t6_0 : (Nat → Int32)) (t7_0 : Int32) (t7_1 : Int32) (t8_0 : (Nat → Int32)) (t9_0 : Int32) (t9_1 : Int32) (t10_0 : (Nat → Int32)) (t11_0 : Int32) (t11_1 : Int32) (t12_0 : Int32) (t12_1 : Int32) (t13_0 : (Nat → Int32)) (t14_0 : Int32) (t14_1 : Int32) (t15_0 : Int32) (t15_1 : Int32) (t16_0 : (Nat → Int32)) (lx71 : Int32) (p196 : (Int64 × Int32 × Int32 × Int32 × (Nat → Int32) × Int32 × Int32 × (Nat → Int32) × Int32 × Int32 × (Nat → Int32) × Int32 × Int32 × (Nat → Int32) × Int32 × Int32 × (Nat → Int32))) (y136 : Int64) (y137 : Int32) (y139 : Int32) (y140 : Int32) (f141 : (Nat → Int32)) (y144 : Int32) (y145 : Int32) (f146 : (Nat → Int32)) (y149 : Int32) (y150 : Int32) (f151 : (Nat → Int32)) (y154 : Int32) (y155 : Int32) (f156 : (Nat → Int32)) (p241 : (Int32 × Int32 × Int32 × (Nat → Int32) × Int32 × Int32 × Int32 × Int32 × (Nat → Int32))) : Int32 × Int64 × Int32 × Int32 × Int32 × (Nat → Int32) × Int32 × Int32 × (Nat → Int32) × Int32 × Int32 × (Nat → Int32) × Int32 × Int32 × (Nat → Int32) × Int32 × Int32 × (Nat → Int32) × Int32 × Int32 × Int32 × Int32 × (Nat → Int32) := if p241.1 = (0 : Int32) then (((0 : Int32), y136, y137, y139, y140, f141, y144, y145, f146, y149, y150, f151, y154, y155, f156, (p241.2.1 : Int32), (p241.2.2.1 : Int32), (p241.2.2.2.1 : (Nat → Int32)), (p241.2.2.2.2.1 : Int32), (p241.2.2.2.2.2.1 : Int32), (p241.2.2.2.2.2.2.1 : Int32), (p241.2.2.2.2.2.2.2.1 : Int32), (p241.2.2.2.2.2.2.2.2 : (Nat → Int32)))) else ((p241.1, y136, y137, y139, y140, f141, y144, y145, f146, y149, y150, f151, y154, y155, f156, (p241.2.1 : Int32), (p241.2.2.1 : Int32), (p241.2.2.2.1 : (Nat → Int32)), (p241.2.2.2.2.1 : Int32), (p241.2.2.2.2.2.1 : Int32), (p241.2.2.2.2.2.2.1 : Int32), (p241.2.2.2.2.2.2.2.1 : Int32), (p241.2.2.2.2.2.2.2.2 : (Nat → Int32))))
def F_NH_decimal_bt_c133 (x2 : Int32) (x3 : Int32) (x4 : Int32) (x5 : Int32) (t0_0 : Int64) (t0_1 : Int32) (t1_0 : Int32) (t1_1 : Int32) (t2_0 : (Nat → Int32)) (t3_0 : Int32) (t3_1 : Int32) (t4_0 : (Nat → Int32)) (t5_0 : Int32) (t5_1 : Int32) (t6_0 : (Nat → Int32)) (t7_0 : Int32) (t7_1 : Int32) (t8_0 : (Nat → Int32)) (t9_0 : Int32) (t9_1 : Int32) (t10_0 : (Nat → Int32)) (t11_0 : Int32) (t11_1 : Int32) (t12_0 : Int32) (t12_1 : Int32) (t13_0 : (Nat → Int32)) (t14_0 : Int32) (t14_1 : Int32) (t15_0 : Int32) (t15_1 : Int32) (t16_0 : (Nat → Int32)) (lx71 : Int32) (p196 : (Int64 × Int32 × Int32 × Int32 × (Nat → Int32) × Int32 × Int32 × (Nat → Int32) × Int32 × Int32 × (Nat → Int32) × Int32 × Int32 × (Nat → Int32) × Int32 × Int32 × (Nat → Int32))) : Int32 × Int64 × Int32 × Int32 × Int32 × (Nat → Int32) × Int32 × Int32 × (Nat → Int32) × Int32 × Int32 × (Nat → Int32) × Int32 × Int32 × (Nat → Int32) × Int32 × Int32 × (Nat → Int32) × Int32 × Int32 × Int32 × Int32 × (Nat → Int32) := F_NH_decimal_bt_c139 x2 x3 x4 x5 t0_0 t0_1 t1_0 t1_1 t2_0 t3_0 t3_1 t4_0 t5_0 t5_1 t6_0 t7_0 t7_1 t8_0 t9_0 t9_1 t10_0 t11_0 t11_1 t12_0 t12_1 t13_0 t14_0 t14_1 t15_0 t15_1 t16_0 lx71 p196 (p196.1 : Int64) (p196.2.1 : Int32) (p196.2.2.1 : Int32) (p196.2.2.2.1 : Int32) (p196.2.2.2.2.1 : (Nat → Int32)) (p196.2.2.2.2.2.1 : Int32) (p196.2.2.2.2.2.2.1 : Int32) (p196.2.2.2.2.2.2.2.1 : (Nat → Int32)) (p196.2.2.2.2.2.2.2.2.1 : Int32) (p196.2.2.2.2.2.2.2.2.2.1 : Int32) (p196.2.2.2.2.2.2.2.2.2.2.1 : (Nat → Int32)) (p196.2.2.2.2.2.2.2.2.2.2.2.1 : Int32) (p196.2.2.2.2.2.2.2.2.2.2.2.2.1 : Int32) (p196.2.2.2.2.2.2.2.2.2.2.2.2.2.1 : (Nat → Int32)) ((F_NH_keepDecimal x5 (p196.1 : Int64) (p196.2.1 : Int32) (p196.2.2.1 : Int32) (p196.2.2.2.1 : Int32) (p196.2.2.2.2.1 : (Nat → Int32)) t9_0 t9_1 t10_0 t14_0 t14_1 (p196.2.2.2.2.2.2.2.2.2.2.2.2.2.2.1 : Int32) (p196.2.2.2.2.2.2.2.2.2.2.2.2.2.2.2.1 : Int32) (p196.2.2.2.2.2.2.2.2.2.2.2.2.2.2.2.2 : (Nat → Int32))) : (Int32 × Int32 × Int32 × (Nat → Int32) × Int32 × Int32 × Int32 × Int32 × (Nat → Int32)))
def F_NH_decimal_bt_c139_5 (x2 : Int32) (x3 : Int32) (x4 : Int32) (x5 : Int32) (t0_0 : Int64) (t0_1 : Int32) (t1_0 : Int32) (t1_1 : Int32) (t2_0 : (Nat → Int32)) (t3_0 : Int32) (t3_1 : Int32) (t4_0 : (Nat → Int32)) (t5_0 : Int32) (t5_1 : Int32) (t6_0 : (Nat → Int32)) (t7_0 : Int32) (t7_1 : Int32) (t8_0 : (Nat → Int32)) (t9_0 : Int32) (t9_1 : Int32) (t10_0 : (Nat → Int32)) (t11_0 : Int32) (t11_1 : Int32) (t12_0 : Int32) (t12_1 : Int32) (t13_0 : (Nat → Int32)) (t14_0 : Int32) (t14_1 : Int32) (t15_0 : Int32) (t15_1 : Int32) (t16_0 : (Nat → Int32)) (lx71 : Int32) (p379 : (Int64 × Int32 × Int32 × Int32 × (Nat → Int32) × Int32 × Int32 × (Nat → Int32) × Int32 × Int32 × (Nat → Int32) × Int32 × Int32 × (Nat → Int32) × Int32 × Int32 × (Nat → Int32))) (y319 : Int64) (y320 : Int32) (y322 : Int32) (y323 : Int32) (f324 : (Nat → Int32)) (y327 : Int32) (y328 : Int32) (f329 : (Nat → Int32)) (y332 : Int32) (y333 : Int32) (f334 : (Nat → Int32)) (y337 : Int32) (y338 : Int32) (f339 : (Nat → Int32)) (p424 : (Int32 × Int32 × Int32 × (Nat → Int32) × Int32 × Int32 × Int32 × Int32 × (Nat → Int32))) : Int32 × Int64 × Int32 × Int32 × Int32 × (Nat → Int32) × Int32 × Int32 × (Nat → Int32) × Int32 × Int32 × (Nat → Int32) × Int32 × Int32 × (Nat → Int32) × Int32 × Int32 × (Nat → Int32) × Int32 × Int32 × Int32 × Int32 × (Nat → Int32) := if p424.1 = (0 : Int32) then (((0 : Int32), y319, y320, y322, y323, f324, y327, y328, f329, y332, y333, f334, y337, y338, f339, (p424.2.1 : Int32), (p424.2.2.1 : Int32), (p424.2.2.2.1 : (Nat → Int32)), (p424.2.2.2.2.1 : Int32), (p424.2.2.2.2.2.1 : Int32), (p424.2.2.2.2.2.2.1 : Int32), (p424.2.2.2.2.2.2.2.1 : Int32), (p424.2.2.2.2.2.2.2.2 : (Nat → Int32)))) else ((p424.1, y319, y320, y322, y323, f324, y327, y328, f329, y332, y333, f334, y337, y338, f339, (p424.2.1 : Int32), (p424.2.2.1 : Int32), (p424.2.2.2.1 : (Nat → Int32)), (p424.2.2.2.2.1 : Int32), (p424.2.2.2.2.2.1 : Int32), (p424.2.2.2.2.2.2.1 : Int32), (p424.2.2.2.2.2.2.2.1 : Int32), (p424.2.2.2.2.2.2.2.2 : (Nat → Int32))))
def F_NH_decimal_bt_c133_4 (x2 : Int32) (x3 : Int32) (x4 : Int32) (x5 : Int32) (t0_0 : Int64) (t0_1 : Int32) (t1_0 : Int32) (t1_1 : Int32) (t2_0 : (Nat → Int32)) (t3_0 : Int32) (t3_1 : Int32) (t4_0 : (Nat → Int32)) (t5_0 : Int32) (t5_1 : Int32) (t6_0 : (Nat → Int32)) (t7_0 : Int32) (t7_1 : Int32) (t8_0 : (Nat → Int32)) (t9_0 : Int32) (t9_1 : Int32) (t10_0 : (Nat → Int32)) (t11_0 : Int32) (t11_1 : Int32) (t12_0 : Int32) (t12_1 : Int32) (t13_0 : (Nat → Int32)) (t14_0 : Int32) (t14_1 : Int32) (t15_0 : Int32) (t15_1 : Int32) (t16_0 : (Nat → Int32)) (lx71 : Int32) (p379 : (Int64 × Int32 × Int32 × Int32 × (Nat → Int32) × Int32 × Int32 × (Nat → Int32) × Int32 × Int32 × (Nat → Int32) × Int32 × Int32 × (Nat → Int32) × Int32 × Int32 × (Nat → Int32))) : Int32 × Int64 × Int32 × Int32 × Int32 × (Nat → Int32) × Int32 × Int32 × (Nat → Int32) × Int32 × Int32 × (Nat → Int32) × Int32 × Int32 × (Nat → Int32) × Int32 × Int32 × (Nat → Int32) × Int32 × Int32 × Int32 × Int32 × (Nat → Int32) := F_NH_decimal_bt_c139_5 x2 x3 x4 x5 t0_0 t0_1 t1_0 t1_1 t2_0 t3_0 t3_1 t4_0 t5_0 t5_1 t6_0 t7_0 t7_1 t8_0 t9_0 t9_1 t10_0 t11_0 t11_1 t12_0 t12_1 t13_0 t14_0 t14_1 t15_0 t15_1 t16_0 lx71 p379 (p379.1 : Int64) (p379.2.1 : Int32) (p379.2.2.1 : Int32) (p379.2.2.2.1 : Int32) (p379.2.2.2.2.1 : (Nat → Int32)) (p379.2.2.2.2.2.1 : Int32) (p379.2.2.2.2.2.2.1 : Int32) (p379.2.2.2.2.2.2.2.1 : (Nat → Int32)) (p379.2.2.2.2.2.2.2.2.1 : Int32) (p379.2.2.2.2.2.2.2.2.2.1 : Int32) (p379.2.2.2.2.2.2.2.2.2.2.1 : (Nat → Int32)) (p379.2.2.2.2.2.2.2.2.2.2.2.1 : Int32) (p379.2.2.2.2.2.2.2.2.2.2.2.2.1 : Int32) (p379.2.2.2.2.2.2.2.2.2.2.2.2.2.1 : (Nat → Int32)) ((F_NH_keepDecimal x5 (p379.1 : Int64) (p379.2.1 : Int32) (p379.2.2.1 : Int32) (p379.2.2.2.1 : Int32) (p379.2.2.2.2.1 : (Nat → Int32)) t9_0 t9_1 t10_0 t14_0 t14_1 (p379.2.2.2.2.2.2.2.2.2.2.2.2.2.2.1 : Int32) (p379.2.2.2.2.2.2.2.2.2.2.2.2.2.2.2.1 : Int32) (p379.2.2.2.2.2.2.2.2.2.2.2.2.2.2.2.2 : (Nat → Int32))) : (Int32 × Int32 × Int32 × (Nat → Int32) × Int32 × Int32 × Int32 × Int32 × (Nat → Int32)))
def F_NH_decimal_bt_c139_7 (x2 : Int32) (x3 : Int32) (x4 : Int32) (x5 : Int32) (t0_0 : Int64) (t0_1 : Int32) (t1_0 : Int32) (t1_1 : Int32) (t2_0 : (Nat → Int32)) (t3_0 : Int32) (t3_1 : Int32) (t4_0 : (Nat → Int32)) (t5_0 : Int32) (t5_1 : Int32) (t6_0 : (Nat → Int32)) (t7_0 : Int32) (t7_1 : Int32) (t8_0 : (Nat → Int32)) (t9_0 : Int32) (t9_1 : Int32) (t10_0 : (Nat → Int32)) (t11_0 : Int32) (t11_1 : Int32) (t12_0 : Int32) (t12_1 : Int32) (t13_0 : (Nat → Int32)) (t14_0 : Int32) (t14_1 : Int32) (t15_0 : Int32) (t15_1 : Int32) (t16_0 : (Nat → Int32)) (lx71 : Int32) (p511 : (Int64 × Int32 × Int32 × Int32 × (Nat → Int32))) (y492 : Int64) (y493 : Int32) (y495 : Int32) (y496 : Int32) (f497 : (Nat → Int32)) (p544 : (Int32 × Int32 × Int32 × (Nat → Int32) × Int32 × Int32 × Int32 × Int32 × (Nat → Int32))) : Int32 × Int64 × Int32 × Int32 × Int32 × (Nat → Int32) × Int32 × Int32 × (Nat → Int32) × Int32 × Int32 × (Nat → Int32) × Int32 × Int32 × (Nat → Int32) × Int32 × Int32 × (Nat → Int32) × Int32 × Int32 × Int32 × Int32 × (Nat → Int32) := if p544.1 = (0 : Int32) then (((0 : Int32), y492, y493, y495, y496, f497, t3_0, t3_1, t4_0, t5_0, t5_1, t6_0, t7_0, t7_1, t8_0, (p544.2.1 : Int32), (p544.2.2.1 : Int32), (p544.2.2.2.1 : (Nat → Int32)), (p544.2.2.2.2.1 : Int32), (p544.2.2.2.2.2.1 : Int32), (p544.2.2.2.2.2.2.1 : Int32), (p544.2.2.2.2.2.2.2.1 : Int32), (p544.2.2.2.2.2.2.2.2 : (Nat → Int32)))) else ((p544.1, y492, y493, y495, y496, f497, t3_0, t3_1, t4_0, t5_0, t5_1, t6_0, t7_0, t7_1, t8_0, (p544.2.1 : Int32), (p544.2.2.1 : Int32), (p544.2.2.2.1 : (Nat → Int32)), (p544.2.2.2.2.1 : Int32), (p544.2.2.2.2.2.1 : Int32), (p544.2.2.2.2.2.2.1 : Int32), (p544.2.2.2.2.2.2.2.1 : Int32), (p544.2.2.2.2.2.2.2.2 : (Nat → Int32))))
def F_NH_decimal_bt_c100 (x2 : Int32) (x3 : Int32) (x4 : Int32) (x5 : Int32) (t0_0 : Int64) (t0_1 : Int32) (t1_0 : Int32) (t1_1 : Int32) (t2_0 : (Nat → Int32)) (t3_0 : Int32) (t3_1 : Int32) (t4_0 : (Nat → Int32)) (t5_0 : Int32) (t5_1 : Int32) (t6_0 : (Nat → Int32)) (t7_0 : Int32) (t7_1 : Int32) (t8_0 : (Nat → Int32)) (t9_0 : Int32) (t9_1 : Int32) (t10_0 : (Nat → Int32)) (t11_0 : Int32) (t11_1 : Int32) (t12_0 : Int32) (t12_1 : Int32) (t13_0 : (Nat → Int32)) (t14_0 : Int32) (t14_1 : Int32) (t15_0 : Int32) (t15_1 : Int32) (t16_0 : (Nat → Int32)) (lx71 : Int32) (p511 : (Int64 × Int32 × Int32 × Int32 × (Nat → Int32))) : Int32 × Int64 × Int32 × Int32 × Int32 × (Nat → Int32) × Int32 × Int32 × (Nat → Int32) × Int32 × Int32 × (Nat → Int32) × Int32 × Int32 × (Nat → Int32) × Int32 × Int32 × (Nat → Int32) × Int32 × Int32 × Int32 × Int32 × (Nat → Int32) := F_NH_decimal_bt_c139_7 x2 x3 x4 x5 t0_0 t0_1 t1_0 t1_1 t2_0 t3_0 t3_1 t4_0 t5_0 t5_1 t6_0 t7_0 t7_1 t8_0 t9_0 t9_1 t10_0 t11_0 t11_1 t12_0 t12_1 t13_0 t14_0 t14_1 t15_0 t15_1 t16_0 lx71 p511 (p511.1 : Int64) (p511.2.1 : Int32) (p511.2.2.1 : Int32) (p511.2.2.2.1 : Int32) (p511.2.2.2.2 : (Nat → Int32)) ((F_NH_keepDecimal x5 (p511.1 : Int64) (p511.2.1 : Int32) (p511.2.2.1 : Int32) (p511.2.2.2.1 : Int32) (p511.2.2.2.2 : (Nat → Int32)) t9_0 t9_1 t10_0 t14_0 t14_1 t15_0 t15_1 t16_0) : (Int32 × Int32 × Int32 × (Nat → Int32) × Int32 × Int32 × Int32 × Int32 × (Nat → Int32)))
def F_NH_decimal_bt_c139_9 (x2 : Int32) (x3 : Int32) (x4 : Int32) (x5 : Int32) (t0_0 : Int64) (t0_1 : Int32) (t1_0 : Int32) (t1_1 : Int32) (t2_0 : (Nat → Int32)) (t3_0 : Int32) (t3_1 : Int32) (t4_0 : (Nat → Int32)) (t5_0 : Int32) (t5_1 : Int32) (t6_0 : (Nat → Int32)) (t7_0 : Int32) (t7_1 : Int32) (t8_0 : (Nat → Int32)) (t9_0 : Int32) (t9_1 : Int32) (t10_0 : (Nat → Int32)) (t11_0 : Int32) (t11_1 : Int32) (t12_0 : Int32) (t12_1 : Int32) (t13_0 : (Nat → Int32)) (t14_0 : Int32) (t14_1 : Int32) (t15_0 : Int32) (t15_1 : Int32) (t16_0 : (Nat → Int32)) (lx71 : Int32) (p644 : (Int32 × Int64 × Int32 × Int32 × Int32 × (Nat → Int32) × Int32 × Int32 × (Nat → Int32))) (y615 : Int64) (y616 : Int32) (y618 : Int32) (y619 : Int32) (f620 : (Nat → Int32)) (y623 : Int32) (y624 : Int32) (f625 : (Nat → Int32)) (p690 : (Int32 × Int32 × Int32 × (Nat → Int32) × Int32 × Int32 × Int32 × Int32 × (Nat → Int32))) : Int32 × Int64 × Int32 × Int32 × Int32 × (Nat → Int32) × Int32 × Int32 × (Nat → Int32) × Int32 × Int32 × (Nat → Int32) × Int32 × Int32 × (Nat → Int32) × Int32 × Int32 × (Nat → Int32) × Int32 × Int32 × Int32 × Int32 × (Nat → Int32) := if p690.1 = (0 : Int32) then (((0 : Int32), y615, y616, y618, y619, f620, t3_0, t3_1, t4_0, y623, y624, f625, t7_0, t7_1, t8_0, (p690.2.1 : Int32), (p690.2.2.1 : Int32), (p690.2.2.2.1 : (Nat → Int32)), (p690.2.2.2.2.1 : Int32), (p690.2.2.2.2.2.1 : Int32), (p690.2.2.2.2.2.2.1 : Int32), (p690.2.2.2.2.2.2.2.1 : Int32), (p690.2.2.2.2.2.2.2.2 : (Nat → Int32)))) else ((p690.1, y615, y616, y618, y619, f620, t3_0, t3_1, t4_0, y623, y624, f625, t7_0, t7_1, t8_0, (p690.2.1 : Int32), (p690.2.2.1 : Int32), (p690.2.2.2.1 : (Nat → Int32)), (p690.2.2.2.2.1 : Int32), (p690.2.2.2.2.2.1 : Int32), (p690.2.2.2.2.2.2.1 : Int32), (p690.2.2.2.2.2.2.2.1 : Int32), (p690.2.2.2.2.2.2.2.2 : (Nat → Int32))))
def F_NH_decimal_bt_c78 (x2 : Int32) (x3 : Int32) (x4 : Int32) (x5 : Int32) (t0_0 : Int64) (t0_1 : Int32) (t1_0 : Int32) (t1_1 : Int32) (t2_0 : (Nat → Int32)) (t3_0 : Int32) (t3_1 : Int32) (t4_0 : (Nat → Int32)) (t5_0 : Int32) (t5_1 : Int32) (t6_0 : (Nat → Int32)) (t7_0 : Int32) (t7_1 : Int32) (t8_0 : (Nat → Int32)) (t9_0 : Int32) (t9_1 : Int32) (t10_0 : (Nat → Int32)) (t11_0 : Int32) (t11_1 : Int32) (t12_0 : Int32) (t12_1 : Int32) (t13_0 : (Nat → Int32)) (t14_0 : Int32) (t14_1 : Int32) (t15_0 : Int32) (t15_1 : Int32) (t16_0 : (Nat → Int32)) (lx71 : Int32) (p644 : (Int32 × Int64 × Int32 × Int32 × Int32 × (Nat → Int32) × Int32 × Int32 × (Nat → Int32))) : Int32 × Int64 × Int32 × Int32 × Int32 × (Nat → Int32) × Int32 × Int32 × (Nat → Int32) × Int32 × Int32 × (Nat → Int32) × Int32 × Int32 × (Nat → Int32) × Int32 × Int32 × (Nat → Int32) × Int32 × Int32 × Int32 × Int32 × (Nat → Int32) := if (F_NH_canHave (p644.1 : Int32)) = (0 : Int32) then (F_NH_decimal_bt_c139_9 x2 x3 x4 x5 t0_0 t0_1 t1_0 t1_1 t2_0 t3_0 t3_1 t4_0 t5_0 t5_1 t6_0 t7_0 t7_1 t8_0 t9_0 t9_1 t10_0 t11_0 t11_1 t12_0 t12_1 t13_0 t14_0 t14_1 t15_0 t15_1 t16_0 lx71 p644 (p644.2.1 : Int64) (p644.2.2.1 : Int32) (p644.2.2.2.1 : Int32) (p644.2.2.2.2.1 : Int32) (p644.2.2.2.2.2.1 : (Nat → Int32)) (p644.2.2.2.2.2.2.1 : Int32) (p644.2.2.2.2.2.2.2.1 : Int32) (p644.2.2.2.2.2.2.2.2 : (Nat → Int32)) ((F_NH_keepDecimal x5 (p644.2.1 : Int64) (p644.2.2.1 : Int32) (p644.2.2.2.1 : Int32) (p644.2.2.2.2.1 : Int32) (p644.2.2.2.2.2.1 : (Nat → Int32)) t9_0 t9_1 t10_0 t14_0 t14_1 t15_0 t15_1 t16_0) : (Int32 × Int32 × Int32 × (Nat → Int32) × Int32 × Int32 × Int32 × Int32 × (Nat → Int32)))) else (((F_NH_canHave (p644.1 : Int32)), (p644.2.1 : Int64), (p644.2.2.1 : Int32), (p644.2.2.2.1 : Int32), (p644.2.2.2.2.1 : Int32), (p644.2.2.2.2.2.1 : (Nat → Int32)), t3_0, t3_1, t4_0, (p644.2.2.2.2.2.2.1 : Int32), (p644.2.2.2.2.2.2.2.1 : Int32), (p644.2.2.2.2.2.2.2.2 : (Nat → Int32)), t7_0, t7_1, t8_0, t9_0, t9_1, t10_0, t14_0, t14_1, t15_0, t15_1, t16_0))
def F_NH_decimal_bt_c139_11 (x2 : Int32) (x3 : Int32) (x4 : Int32) (x5 : Int32) (t0_0 : Int64) (t0_1 : Int32) (t1_0 : Int32) (t1_1 : Int32) (t2_0 : (Nat → Int32)) (t3_0 : Int32) (t3_1 : Int32) (t4_0 : (Nat → Int32)) (t5_0 : Int32) (t5_1 : Int32) (t6_0 : (Nat → Int32)) (t7_0 : Int32) (t7_1 : Int32) (t8_0 : (Nat → Int32)) (t9_0 : Int32) (t9_1 : Int32) (t10_0 : (Nat → Int32)) (t11_0 : Int32) (t11_1 : Int32) (t12_0 : Int32) (t12_1 : Int32) (t13_0 : (Nat → Int32)) (t14_0 : Int32) (t14_1 : Int32) (t15_0 : Int32) (t15_1 : Int32) (t16_0 : (Nat → Int32)) (lx71 : Int32) (p788 : (Int32 × Int64 × Int32 × Int32 × Int32 × (Nat → Int32) × Int32 × Int32 × (Nat → Int32))) (y759 : Int64) (y760 : Int32) (y762 : Int32) (y763 : Int32) (f764 : (Nat → Int32)) (y767 : Int32) (y768 : Int32) (f769 : (Nat → Int32)) (p834 : (Int32 × Int32 × Int32 × (Nat → Int32) × Int32 × Int32 × Int32 × Int32 × (Nat → Int32))) : Int32 × Int64 × Int32 × Int32 × Int32 × (Nat → Int32) × Int32 × Int32 × (Nat → Int32) × Int32 × Int32 × (Nat → Int32) × Int32 × Int32 × (Nat → Int32) × Int32 × Int32 × (Nat → Int32) × Int32 × Int32 × Int32 × Int32 × (Nat → Int32) := if p834.1 = (0 : Int32) then (((0 : Int32), y759, y760, y762, y763, f764, t3_0, t3_1, t4_0, y767, y768, f769, t7_0, t7_1, t8_0, (p834.2.1 : Int32), (p834.2.2.1 : Int32), (p834.2.2.2.1 : (Nat → Int32)), (p834.2.2.2.2.1 : Int32), (p834.2.2.2.2.2.1 : Int32), (p834.2.2.2.2.2.2.1 : Int32), (p834.2.2.2.2.2.2.2.1 : Int32), (p834.2.2.2.2.2.2.2.2 : (Nat → Int32)))) else ((p834.1, y759, y760, y762, y763, f764, t3_0, t3_1, t4_0, y767, y768, f769, t7_0, t7_1, t8_0, (p834.2.1 : Int32), (p834.2.2.1 : Int32), (p834.2.2.2.1 : (Nat → Int32)), (p834.2.2.2.2.1 : Int32), (p834.2.2.2.2.2.1 : Int32), (p834.2.2.2.2.2.2.1 : Int32), (p834.2.2.2.2.2.2.2.1 : Int32), (p834.2.2.2.2.2.2.2.2 : (Nat → Int32))))
def F_NH_decimal_bt_c78_10 (x2 : Int32) (x3 : Int32) (x4 : Int32) (x5 : Int32) (t0_0 : Int64) (t0_1 : Int32) (t1_0 : Int32) (t1_1 : Int32) (t2_0 : (Nat → Int32)) (t3_0 : Int32) (t3_1 : Int32) (t4_0 : (Nat → Int32)) (t5_0 : Int32) (t5_1 : Int32) (t6_0 : (Nat → Int32)) (t7_0 : Int32) (t7_1 : Int32) (t8_0 : (Nat → Int32)) (t9_0 : Int32) (t9_1 : Int32) (t10_0 : (Nat → Int32)) (t11_0 : Int32) (t11_1 : Int32) (t12_0 : Int32) (t12_1 : Int32) (t13_0 : (Nat → Int32)) (t14_0 : Int32) (t14_1 : Int32) (t15_0 : Int32) (t15_1 : Int32) (t16_0 : (Nat → Int32)) (lx71 : Int32) (p788 : (Int32 × Int64 × Int32 × Int32 × Int32 × (Nat → Int32) × Int32 × Int32 × (Nat → Int32))) : Int32 × Int64 × Int32 × Int32 × Int32 × (Nat → Int32) × Int32 × Int32 × (Nat → Int32) × Int32 × Int32 × (Nat → Int32) × Int32 × Int32 × (Nat → Int32) × Int32 × Int32 × (Nat → Int32) × Int32 × Int32 × Int32 × Int32 × (Nat → Int32) := if (F_NH_canHave (p788.1 : Int32)) = (0 : Int32) then (F_NH_decimal_bt_c139_11 x2 x3 x4 x5 t0_0 t0_1 t1_0 t1_1 t2_0 t3_0 t3_1 t4_0 t5_0 t5_1 t6_0 t7_0 t7_1 t8_0 t9_0 t9_1 t10_0 t11_0 t11_1 t12_0 t12_1 t13_0 t14_0 t14_1 t15_0 t15_1 t16_0 lx71 p788 (p788.2.1 : Int64) (p788.2.2.1 : Int32) (p788.2.2.2.1 : Int32) (p788.2.2.2.2.1 : Int32) (p788.2.2.2.2.2.1 : (Nat → Int32)) (p788.2.2.2.2.2.2.1 : Int32) (p788.2.2.2.2.2.2.2.1 : Int32) (p788.2.2.2.2.2.2.2.2 : (Nat → Int32)) ((F_NH_keepDecimal x5 (p788.2.1 : Int64) (p788.2.2.1 : Int32) (p788.2.2.2.1 : Int32) (p788.2.2.2.2.1 : Int32) (p788.2.2.2.2.2.1 : (Nat → Int32)) t9_0 t9_1 t10_0 t14_0 t14_1 t15_0 t15_1 t16_0) : (Int32 × Int32 × Int32 × (Nat → Int32) × Int32 × Int32 × Int32 × Int32 × (Nat → Int32)))) else (((F_NH_canHave (p788.1 : Int32)), (p788.2.1 : Int64), (p788.2.2.1 : Int32), (p788.2.2.2.1 : Int32), (p788.2.2.2.2.1 : Int32), (p788.2.2.2.2.2.1 : (Nat → Int32)), t3_0, t3_1, t4_0, (p788.2.2.2.2.2.2.1 : Int32), (p788.2.2.2.2.2.2.2.1 : Int32), (p788.2.2.2.2.2.2.2.2 : (Nat → Int32)), t7_0, t7_1, t8_0, t9_0, t9_1, t10_0, t14_0, t14_1, t15_0, t15_1, t16_0))
def F_NH_decimal_bt_J36 (x2 : Int32) (x3 : Int32) (x4 : Int32) (x5 : Int32) (t0_0 : Int64) (t0_1 : Int32) (t1_0 : Int32) (t1_1 : Int32) (t2_0 : (Nat → Int32)) (t3_0 : Int32) (t3_1 : Int32) (t4_0 : (Nat → Int32)) (t5_0 : Int32) (t5_1 : Int32) (t6_0 : (Nat → Int32)) (t7_0 : Int32) (t7_1 : Int32) (t8_0 : (Nat → Int32)) (t9_0 : Int32) (t9_1 : Int32) (t10_0 : (Nat → Int32)) (t11_0 : Int32) (t11_1 : Int32) (t12_0 : Int32) (t12_1 : Int32) (t13_0 : (Nat → Int32)) (t14_0 : Int32) (t14_1 : Int32) (t15_0 : Int32) (t15_1 : Int32) (t16_0 : (Nat → Int32)) (lx71 : Int32) : Int32 × Int64 × Int32 × Int32 × Int32 × (Nat → Int32) × Int32 × Int32 × (Nat → Int32) × Int32 × Int32 × (Nat → Int32) × Int32 × Int32 × (Nat → Int32) × Int32 × Int32 × (Nat → Int32) × Int32 × Int32 × Int32 × Int32 × (Nat → Int32) := if (F_NH_need lx71) = (0 : Int32) then (if (1 : Int32) < x2 then (if x2 = (2 : Int32) then (F_NH_decimal_bt_c100 x2 x3 x4 x5 t0_0 t0_1 t1_0 t1_1 t2_0 t3_0 t3_1 t4_0 t5_0 t5_1 t6_0 t7_0 t7_1 t8_0 t9_0 t9_1 t10_0 t11_0 t11_1 t12_0 t12_1 t13_0 t14_0 t14_1 t15_0 t15_1 t16_0 lx71 ((F_DW_multiply (108 : Int32) (108 : Int32) t0_0 t0_1 t1_0 t1_1 t2_0 t11_0 t11_1 t12_0 t12_1 t13_0 t14_0 t14_1 t15_0 t15_1 t16_0) : (Int64 × Int32 × Int32 × Int32 × (Nat → Int32)))) else (if t15_0 ≤ (0 : Int32) then (if (F_NH_canHave (0 : Int32)) = (0 : Int32) then (F_NH_decimal_bt_c133 x2 x3 x4 x5 t0_0 t0_1 t1_0 t1_1 t2_0 t3_0 t3_1 t4_0 t5_0 t5_1 t6_0 t7_0 t7_1 t8_0 t9_0 t9_1 t10_0 t11_0 t11_1 t12_0 t12_1 t13_0 t14_0 t14_1 t15_0 t15_1 t16_0 lx71 ((F_DW_rest (108 : Int32) (108 : Int32) t0_0 t0_1 t1_0 t1_1 t2_0 t3_0 t3_1 t4_0 t5_0 t5_1 t6_0 t7_0 t7_1 t8_0 t11_0 t11_1 t12_0 t12_1 t13_0 t14_0 t14_1 t15_0 t15_1 t16_0) : (Int64 × Int32 × Int32 × Int32 × (Nat → Int32) × Int32 × Int32 × (Nat → Int32) × Int32 × Int32 × (Nat → Int32) × Int32 × Int32 × (Nat → Int32) × Int32 × Int32 × (Nat → Int32)))) else (((F_NH_canHave (0 : Int32)), t0_0, t0_1, t1_0, t1_1, t2_0, t3_0, t3_1, t4_0, t5_0, t5_1, t6_0, t7_0, t7_1, t8_0, t9_0, t9_1, t10_0, t14_0, t14_1, t15_0, t15_1, t16_0))) else (if (F_NH_canHave (1 : Int32)) = (0 : Int32) then (F_NH_decimal_bt_c133_4 x2 x3 x4 x5 t0_0 t0_1 t1_0 t1_1 t2_0 t3_0 t3_1 t4_0 t5_0 t5_1 t6_0 t7_0 t7_1 t8_0 t9_0 t9_1 t10_0 t11_0 t11_1 t12_0 t12_1 t13_0 t14_0 t14_1 t15_0 t15_1 t16_0 lx71 ((F_DW_rest (108 : Int32) (108 : Int32) t0_0 t0_1 t1_0 t1_1 t2_0 t3_0 t3_1 t4_0 t5_0 t5_1 t6_0 t7_0 t7_1 t8_0 t11_0 t11_1 t12_0 t12_1 t13_0 t14_0 t14_1 t15_0 t15_1 t16_0) : (Int64 × Int32 × Int32 × Int32 × (Nat → Int32) × Int32 × Int32 × (Nat → Int32) × Int32 × Int32 × (Nat → Int32) × Int32 × Int32 × (Nat → Int32) × Int32 × Int32 × (Nat → Int32)))) else (((F_NH_canHave (1 : Int32)), t0_0, t0_1, t1_0, t1_1, t2_0, t3_0, t3_1, t4_0, t5_0, t5_1, t6_0, t7_0, t7_1, t8_0, t9_0, t9_1, t10_0, t14_0, t14_1, t15_0, t15_1, t16_0))))) else (if x2 = (1 : Int32) then (F_NH_decimal_bt_c78_10 x2 x3 x4 x5 t0_0 t0_1 t1_0 t1_1 t2_0 t3_0 t3_1 t4_0 t5_0 t5_1 t6_0 t7_0 t7_1 t8_0 t9_0 t9_1 t10_0 t11_0 t11_1 t12_0 t12_1 t13_0 t14_0 t14_1 t15_0 t15_1 t16_0 lx71 ((F_DW_sum (108 : Int32) (108 : Int32) (1 : Int32) t0_0 t0_1 t1_0 t1_1 t2_0 t5_0 t5_1 t6_0 t11_0 t11_1 t12_0 t12_1 t13_0 t14_0 t14_1 t15_0 t15_1 t16_0) : (Int32 × Int64 × Int32 × Int32 × Int32 × (Nat → Int32) × Int32 × Int32 × (Nat → Int32)))) else (F_NH_decimal_bt_c78 x2 x3 x4 x5 t0_0 t0_1 t1_0 t1_1 t2_0 t3_0 t3_1 t4_0 t5_0 t5_1 t6_0 t7_0 t7_1 t8_0 t9_0 t9_1 t10_0 t11_0 t11_1 t12_0 t12_1 t13_0 t14_0 t14_1 t15_0 t15_1 t16_0 lx71 ((F_DW_sum (108 : Int32) (108 : Int32) (0 : Int32) t0_0 t0_1 t1_0 t1_1 t2_0 t5_0 t5_1 t6_0 t11_0 t11_1 t12_0 t12_1 t13_0 t14_0 t14_1 t15_0 t15_1 t16_0) : (Int32 × Int64 × Int32 × Int32 × Int32 × (Nat → Int32) × Int32 × Int32 × (Nat → Int32)))))) else (((F_NH_need lx71), t0_0, t0_1, t1_0, t1_1, t2_0, t3_0, t3_1, t4_0, t5_0, t5_1, t6_0, t7_0, t7_1, t8_0, t9_0, t9_1, t10_0, t14_0, t14_1, t15_0, t15_1, t16_0))
def F_NH_decimal_bt_J35 (x2 : Int32) (x3 : Int32) (x4 : Int32) (x5 : Int32) (t0_0 : Int64) (t0_1 : Int32) (t1_0 : Int32) (t1_1 : Int32) (t2_0 : (Nat → Int32)) (t3_0 : Int32) (t3_1 : Int32) (t4_0 : (Nat → Int32)) (t5_0 : Int32) (t5_1 : Int32) (t6_0 : (Nat → Int32)) (t7_0 : Int32) (t7_1 : Int32) (t8_0 : (Nat → Int32)) (t9_0 : Int32) (t9_1 : Int32) (t10_0 : (Nat → Int32)) (t11_0 : Int32) (t11_1 : Int32) (t12_0 : Int32) (t12_1 : Int32) (t13_0 : (Nat → Int32)) (t14_0 : Int32) (t14_1 : Int32) (t15_0 : Int32) (t15_1 : Int32) (t16_0 : (Nat → Int32)) : Int32 × Int64 × Int32 × Int32 × Int32 × (Nat → Int32) × Int32 × Int32 × (Nat → Int32) × Int32 × Int32 × (Nat → Int32) × Int32 × Int32 × (Nat → Int32) × Int32 × Int32 × (Nat → Int32) × Int32 × Int32 × Int32 × Int32 × (Nat → Int32) := F_NH_decimal_bt_J36 x2 x3 x4 x5 t0_0 t0_1 t1_0 t1_1 t2_0 t3_0 t3_1 t4_0 t5_0 t5_1 t6_0 t7_0 t7_1 t8_0 t9_0 t9_1 t10_0 t11_0 t11_1 t12_0 t12_1 t13_0 t14_0 t14_1 t15_0 t15_1 t16_0 0
def F_NH_decimal_bt (x2 : Int32) (x3 : Int32) (x4 : Int32) (x5 : Int32) (t0_0 : Int64) (t0_1 : Int32) (t1_0 : Int32) (t1_1 : Int32) (t2_0 : (Nat → Int32)) (t3_0 : Int32) (t3_1 : Int32) (t4_0 : (Nat → Int32)) (t5_0 : Int32) (t5_1 : Int32) (t6_0 : (Nat → Int32)) (t7_0 : Int32) (t7_1 : Int32) (t8_0 : (Nat → Int32)) (t9_0 : Int32) (t9_1 : Int32) (t10_0 : (Nat → Int32)) (t11_0 : Int32) (t11_1 : Int32) (t12_0 : Int32) (t12_1 : Int32) (t13_0 : (Nat → Int32)) (t14_0 : Int32) (t14_1 : Int32) (t15_0 : Int32) (t15_1 : Int32) (t16_0 : (Nat → Int32)) : Int32 × Int64 × Int32 × Int32 × Int32 × (Nat → Int32) × Int32 × Int32 × (Nat → Int32) × Int32 × Int32 × (Nat → Int32) × Int32 × Int32 × (Nat → Int32) × Int32 × Int32 × (Nat → Int32) × Int32 × Int32 × Int32 × Int32 × (Nat → Int32) := if x2 < (0 : Int32) then (F_NH_decimal_bt_J35 x2 x3 x4 x5 t0_0 t0_1 t1_0 t1_1 t2_0 t3_0 t3_1 t4_0 t5_0 t5_1 t6_0 t7_0 t7_1 t8_0 t9_0 t9_1 t10_0 t11_0 t11_1 t12_0 t12_1 t13_0 t14_0 t14_1 t15_0 t15_1 t16_0) else (if (3 : Int32) < x2 then (F_NH_decimal_bt_J35 x2 x3 x4 x5 t0_0 t0_1 t1_0 t1_1 t2_0 t3_0 t3_1 t4_0 t5_0 t5_1 t6_0 t7_0 t7_1 t8_0 t9_0 t9_1 t10_0 t11_0 t11_1 t12_0 t12_1 t13_0 t14_0 t14_1 t15_0 t15_1 t16_0) else (if ((F_NH_isRegister x3) : Int32) = (0 : Int32) then (F_NH_decimal_bt_J35 x2 x3 x4 x5 t0_0 t0_1 t1_0 t1_1 t2_0 t3_0 t3_1 t4_0 t5_0 t5_1 t6_0 t7_0 t7_1 t8_0 t9_0 t9_1 t10_0 t11_0 t11_1 t12_0 t12_1 t13_0 t14_0 t14_1 t15_0 t15_1 t16_0) else (if ((F_NH_isRegister x4) : Int32) = (0 : Int32) then (F_NH_decimal_bt_J35 x2 x3 x4 x5 t0_0 t0_1 t1_0 t1_1 t2_0 t3_0 t3_1 t4_0 t5_0 t5_1 t6_0 t7_0 t7_1 t8_0 t9_0 t9_1 t10_0 t11_0 t11_1 t12_0 t12_1 t13_0 t14_0 t14_1 t15_0 t15_1 t16_0) else (if ((F_NH_isRegister x5) : Int32) = (0 : Int32) then (F_NH_decimal_bt_J35 x2 x3 x4 x5 t0_0 t0_1 t1_0 t1_1 t2_0 t3_0 t3_1 t4_0 t5_0 t5_1 t6_0 t7_0 t7_1 t8_0 t9_0 t9_1 t10_0 t11_0 t11_1 t12_0 t12_1 t13_0 t14_0 t14_1 t15_0 t15_1 t16_0) else (F_NH_decimal_bt_J36 x2 x3 x4 x5 t0_0 t0_1 t1_0 t1_1 t2_0 t3_0 t3_1 t4_0 t5_0 t5_1 t6_0 t7_0 t7_1 t8_0 t9_0 t9_1 t10_0 t11_0 t11_1 t12_0 t12_1 t13_0 t14_0 t14_1 t15_0 t15_1 t16_0 1)))))
def S_NH_decimal_bt_c139 (x2 : Int32) (x3 : Int32) (x4 : Int32) (x5 : Int32) (t0_0 : Int64) (t0_1 : Int32) (t1_0 : Int32) (t1_1 : Int32) (t2_0 : (Nat → Int32)) (t3_0 : Int32) (t3_1 : Int32) (t4_0 : (Nat → Int32)) (t5_0 : Int32) (t5_1 : Int32) (t6_0 : (Nat → Int32)) (t7_0 : Int32) (t7_1 : Int32) (t8_0 : (Nat → Int32)) (t9_0 : Int32) (t9_1 : Int32) (t10_0 : (Nat → Int32)) (t11_0 : Int32) (t11_1 : Int32) (t12_0 : Int32) (t12_1 : Int32) (t13_0 : (Nat → Int32)) (t14_0 : Int32) (t14_1 : Int32) (t15_0 : Int32) (t15_1 : Int32) (t16_0 : (Nat → Int32)) (lx71 : Int32) (p196 : (Int64 × Int32 × Int32 × Int32 × (Nat → Int32) × Int32 × Int32 × (Nat → Int32) × Int32 × Int32 × (Nat → Int32) × Int32 × Int32 × (Nat → Int32) × Int32 × Int32 × (Nat → Int32))) (y136 : Int64) (y137 : Int32) (y139 : Int32) (y140 : Int32) (f141 : (Nat → Int32)) (y144 : Int32) (y145 : Int32) (f146 : (Nat → Int32)) (y149 : Int32) (y150 : Int32) (f151 : (Nat → Int32)) (y154 : Int32) (y155 : Int32) (f156 : (Nat → Int32)) (p241 : (Int32 × Int32 × Int32 × (Nat → Int32) × Int32 × Int32 × Int32 × Int32 × (Nat → Int32))) : Prop := if p241.1 = (0 : Int32) then (True) else (True)
def S_NH_decimal_bt_c133 (x2 : Int32) (x3 : Int32) (x4 : Int32) (x5 : Int32) (t0_0 : Int64) (t0_1 : Int32) (t1_0 : Int32) (t1_1 : Int32) (t2_0 : (Nat → Int32)) (t3_0 : Int32) (t3_1 : Int32) (t4_0 : (Nat → Int32)) (t5_0 : Int32) (t5_1 : Int32) (t6_0 : (Nat → Int32)) (t7_0 : Int32) (t7_1 : Int32) (t8_0 : (Nat → Int32)) (t9_0 : Int32) (t9_1 : Int32) (t10_0 : (Nat → Int32)) (t11_0 : Int32) (t11_1 : Int32) (t12_0 : Int32) (t12_1 : Int32) (t13_0 : (Nat → Int32)) (t14_0 : Int32) (t14_1 : Int32) (t15_0 : Int32) (t15_1 : Int32) (t16_0 : (Nat → Int32)) (lx71 : Int32) (p196 : (Int64 × Int32 × Int32 × Int32 × (Nat → Int32) × Int32 × Int32 × (Nat → Int32) × Int32 × Int32 × (Nat → Int32) × Int32 × Int32 × (Nat → Int32) × Int32 × Int32 × (Nat → Int32))) : Prop := (True ∧ S_NH_keepDecimal x5 (p196.1 : Int64) (p196.2.1 : Int32) (p196.2.2.1 : Int32) (p196.2.2.2.1 : Int32) (p196.2.2.2.2.1 : (Nat → Int32)) t9_0 t9_1 t10_0 t14_0 t14_1 (p196.2.2.2.2.2.2.2.2.2.2.2.2.2.2.1 : Int32) (p196.2.2.2.2.2.2.2.2.2.2.2.2.2.2.2.1 : Int32) (p196.2.2.2.2.2.2.2.2.2.2.2.2.2.2.2.2 : (Nat → Int32))) ∧ (S_NH_decimal_bt_c139 x2 x3 x4 x5 t0_0 t0_1 t1_0 t1_1 t2_0 t3_0 t3_1 t4_0 t5_0 t5_1 t6_0 t7_0 t7_1 t8_0 t9_0 t9_1 t10_0 t11_0 t11_1 t12_0 t12_1 t13_0 t14_0 t14_1 t15_0 t15_1 t16_0 lx71 p196 (p196.1 : Int64) (p196.2.1 : Int32) (p196.2.2.1 : Int32) (p196.2.2.2.1 : Int32) (p196.2.2.2.2.1 : (Nat → Int32)) (p196.2.2.2.2.2.1 : Int32) (p196.2.2.2.2.2.2.1 : Int32) (p196.2.2.2.2.2.2.2.1 : (Nat → Int32)) (p196.2.2.2.2.2.2.2.2.1 : Int32) (p196.2.2.2.2.2.2.2.2.2.1 : Int32) (p196.2.2.2.2.2.2.2.2.2.2.1 : (Nat → Int32)) (p196.2.2.2.2.2.2.2.2.2.2.2.1 : Int32) (p196.2.2.2.2.2.2.2.2.2.2.2.2.1 : Int32) (p196.2.2.2.2.2.2.2.2.2.2.2.2.2.1 : (Nat → Int32)) ((F_NH_keepDecimal x5 (p196.1 : Int64) (p196.2.1 : Int32) (p196.2.2.1 : Int32) (p196.2.2.2.1 : Int32) (p196.2.2.2.2.1 : (Nat → Int32)) t9_0 t9_1 t10_0 t14_0 t14_1 (p196.2.2.2.2.2.2.2.2.2.2.2.2.2.2.1 : Int32) (p196.2.2.2.2.2.2.2.2.2.2.2.2.2.2.2.1 : Int32) (p196.2.2.2.2.2.2.2.2.2.2.2.2.2.2.2.2 : (Nat → Int32))) : (Int32 × Int32 × Int32 × (Nat → Int32) × Int32 × Int32 × Int32 × Int32 × (Nat → Int32))))
def S_NH_decimal_bt_c139_5 (x2 : Int32) (x3 : Int32) (x4 : Int32) (x5 : Int32) (t0_0 : Int64) (t0_1 : Int32) (t1_0 : Int32) (t1_1 : Int32) (t2_0 : (Nat → Int32)) (t3_0 : Int32) (t3_1 : Int32) (t4_0 : (Nat → Int32)) (t5_0 : Int32) (t5_1 : Int32) (t6_0 : (Nat → Int32)) (t7_0 : Int32) (t7_1 : Int32) (t8_0 : (Nat → Int32)) (t9_0 : Int32) (t9_1 : Int32) (t10_0 : (Nat → Int32)) (t11_0 : Int32) (t11_1 : Int32) (t12_0 : Int32) (t12_1 : Int32) (t13_0 : (Nat → Int32)) (t14_0 : Int32) (t14_1 : Int32) (t15_0 : Int32) (t15_1 : Int32) (t16_0 : (Nat → Int32)) (lx71 : Int32) (p379 : (Int64 × Int32 × Int32 × Int32 × (Nat → Int32) × Int32 × Int32 × (Nat → Int32) × Int32 × Int32 × (Nat → Int32) × Int32 × Int32 × (Nat → Int32) × Int32 × Int32 × (Nat → Int32))) (y319 : Int64) (y320 : Int32) (y322 : Int32) (y323 : Int32) (f324 : (Nat → Int32)) (y327 : Int32) (y328 : Int32) (f329 : (Nat → Int32)) (y332 : Int32) (y333 : Int32) (f334 : (Nat → Int32)) (y337 : Int32) (y338 : Int32) (f339 : (Nat → Int32)) (p424 : (Int32 × Int32 × Int32 × (Nat → Int32) × Int32 × Int32 × Int32 × Int32 × (Nat → Int32))) : Prop := if p424.1 = (0 : Int32) then (True) else (True)
def S_NH_decimal_bt_c133_4 (x2 : Int32) (x3 : Int32) (x4 : Int32) (x5 : Int32) (t0_0 : Int64) (t0_1 : Int32) (t1_0 : Int32) (t1_1 : Int32) (t2_0 : (Nat → Int32)) (t3_0 : Int32) (t3_1 : Int32) (t4_0 : (Nat → Int32)) (t5_0 : Int32) (t5_1 : Int32) (t6_0 : (Nat → Int32)) (t7_0 : Int32) (t7_1 : Int32) (t8_0 : (Nat → Int32)) (t9_0 : Int32) (t9_1 : Int32) (t10_0 : (Nat → Int32)) (t11_0 : Int32) (t11_1 : Int32) (t12_0 : Int32) (t12_1 : Int32) (t13_0 : (Nat → Int32)) (t14_0 : Int32) (t14_1 : Int32) (t15_0 : Int32) (t15_1 : Int32) (t16_0 : (Nat → Int32)) (lx71 : Int32) (p379 : (Int64 × Int32 × Int32 × Int32 × (Nat → Int32) × Int32 × Int32 × (Nat → Int32) × Int32 × Int32 × (Nat → Int32) × Int32 × Int32 × (Nat → Int32) × Int32 × Int32 × (Nat → Int32))) : Prop := (True ∧ S_NH_keepDecimal x5 (p379.1 : Int64) (p379.2.1 : Int32) (p379.2.2.1 : Int32) (p379.2.2.2.1 : Int32) (p379.2.2.2.2.1 : (Nat → Int32)) t9_0 t9_1 t10_0 t14_0 t14_1 (p379.2.2.2.2.2.2.2.2.2.2.2.2.2.2.1 : Int32) (p379.2.2.2.2.2.2.2.2.2.2.2.2.2.2.2.1 : Int32) (p379.2.2.2.2.2.2.2.2.2.2.2.2.2.2.2.2 : (Nat → Int32))) ∧ (S_NH_decimal_bt_c139_5 x2 x3 x4 x5 t0_0 t0_1 t1_0 t1_1 t2_0 t3_0 t3_1 t4_0 t5_0 t5_1 t6_0 t7_0 t7_1 t8_0 t9_0 t9_1 t10_0 t11_0 t11_1 t12_0 t12_1 t13_0 t14_0 t14_1 t15_0 t15_1 t16_0 lx71 p379 (p379.1 : Int64) (p379.2.1 : Int32) (p379.2.2.1 : Int32) (p379.2.2.2.1 : Int32) (p379.2.2.2.2.1 : (Nat → Int32)) (p379.2.2.2.2.2.1 : Int32) (p379.2.2.2.2.2.2.1 : Int32) (p379.2.2.2.2.2.2.2.1 : (Nat → Int32)) (p379.2.2.2.2.2.2.2.2.1 : Int32) (p379.2.2.2.2.2.2.2.2.2.1 : Int32) (p379.2.2.2.2.2.2.2.2.2.2.1 : (Nat → Int32)) (p379.2.2.2.2.2.2.2.2.2.2.2.1 : Int32) (p379.2.2.2.2.2.2.2.2.2.2.2.2.1 : Int32) (p379.2.2.2.2.2.2.2.2.2.2.2.2.2.1 : (Nat → Int32)) ((F_NH_keepDecimal x5 (p379.1 : Int64) (p379.2.1 : Int32) (p379.2.2.1 : Int32) (p379.2.2.2.1 : Int32) (p379.2.2.2.2.1 : (Nat → Int32)) t9_0 t9_1 t10_0 t14_0 t14_1 (p379.2.2.2.2.2.2.2.2.2.2.2.2.2.2.1 : Int32) (p379.2.2.2.2.2.2.2.2.2.2.2.2.2.2.2.1 : Int32) (p379.2.2.2.2.2.2.2.2.2.2.2.2.2.2.2.2 : (Nat → Int32))) : (Int32 × Int32 × Int32 × (Nat → Int32) × Int32 × Int32 × Int32 × Int32 × (Nat → Int32))))
def S_NH_decimal_bt_c139_7 (x2 : Int32) (x3 : Int32) (x4 : Int32) (x5 : Int32) (t0_0 : Int64) (t0_1 : Int32) (t1_0 : Int32) (t1_1 : Int32) (t2_0 : (Nat → Int32)) (t3_0 : Int32) (t3_1 : Int32) (t4_0 : (Nat → Int32)) (t5_0 : Int32) (t5_1 : Int32) (t6_0 : (Nat → Int32)) (t7_0 : Int32) (t7_1 : Int32) (t8_0 : (Nat → Int32)) (t9_0 : Int32) (t9_1 : Int32) (t10_0 : (Nat → Int32)) (t11_0 : Int32) (t11_1 : Int32) (t12_0 : Int32) (t12_1 : Int32) (t13_0 : (Nat → Int32)) (t14_0 : Int32) (t14_1 : Int32) (t15_0 : Int32) (t15_1 : Int32) (t16_0 : (Nat → Int32)) (lx71 : Int32) (p511 : (Int64 × Int32 × Int32 × Int32 × (Nat → Int32))) (y492 : Int64) (y493 : Int32) (y495 : Int32) (y496 : Int32) (f497 : (Nat → Int32)) (p544 : (Int32 × Int32 × Int32 × (Nat → Int32) × Int32 × Int32 × Int32 × Int32 × (Nat → Int32))) : Prop := if p544.1 = (0 : Int32) then (True) else (True)
def S_NH_decimal_bt_c100 (x2 : Int32) (x3 : Int32) (x4 : Int32) (x5 : Int32) (t0_0 : Int64) (t0_1 : Int32) (t1_0 : Int32) (t1_1 : Int32) (t2_0 : (Nat → Int32)) (t3_0 : Int32) (t3_1 : Int32) (t4_0 : (Nat → Int32)) (t5_0 : Int32) (t5_1 : Int32) (t6_0 : (Nat → Int32)) (t7_0 : Int32) (t7_1 : Int32) (t8_0 : (Nat → Int32)) (t9_0 : Int32) (t9_1 : Int32) (t10_0 : (Nat → Int32)) (t11_0 : Int32) (t11_1 : Int32) (t12_0 : Int32) (t12_1 : Int32) (t13_0 : (Nat → Int32)) (t14_0 : Int32) (t14_1 : Int32) (t15_0 : Int32) (t15_1 : Int32) (t16_0 : (Nat → Int32)) (lx71 : Int32) (p511 : (Int64 × Int32 × Int32 × Int32 × (Nat → Int32))) : Prop := (True ∧ S_NH_keepDecimal x5 (p511.1 : Int64) (p511.2.1 : Int32) (p511.2.2.1 : Int32) (p511.2.2.2.1 : Int32) (p511.2.2.2.2 : (Nat → Int32)) t9_0 t9_1 t10_0 t14_0 t14_1 t15_0 t15_1 t16_0) ∧ (S_NH_decimal_bt_c139_7 x2 x3 x4 x5 t0_0 t0_1 t1_0 t1_1 t2_0 t3_0 t3_1 t4_0 t5_0 t5_1 t6_0 t7_0 t7_1 t8_0 t9_0 t9_1 t10_0 t11_0 t11_1 t12_0 t12_1 t13_0 t14_0 t14_1 t15_0 t15_1 t16_0 lx71 p511 (p511.1 : Int64) (p511.2.1 : Int32) (p511.2.2.1 : Int32) (p511.2.2.2.1 : Int32) (p511.2.2.2.2 : (Nat → Int32)) ((F_NH_keepDecimal x5 (p511.1 : Int64) (p511.2.1 : Int32) (p511.2.2.1 : Int32) (p511.2.2.2.1 : Int32) (p511.2.2.2.2 : (Nat → Int32)) t9_0 t9_1 t10_0 t14_0 t14_1 t15_0 t15_1 t16_0) : (Int32 × Int32 × Int32 × (Nat → Int32) × Int32 × Int32 × Int32 × Int32 × (Nat → Int32))))
def S_NH_decimal_bt_c139_9 (x2 : Int32) (x3 : Int32) (x4 : Int32) (x5 : Int32) (t0_0 : Int64) (t0_1 : Int32) (t1_0 : Int32) (t1_1 : Int32) (t2_0 : (Nat → Int32)) (t3_0 : Int32) (t3_1 : Int32) (t4_0 : (Nat → Int32)) (t5_0 : Int32) (t5_1 : Int32) (t6_0 : (Nat → Int32)) (t7_0 : Int32) (t7_1 : Int32) (t8_0 : (Nat → Int32)) (t9_0 : Int32) (t9_1 : Int32) (t10_0 : (Nat → Int32)) (t11_0 : Int32) (t11_1 : Int32) (t12_0 : Int32) (t12_1 : Int32) (t13_0 : (Nat → Int32)) (t14_0 : Int32) (t14_1 : Int32) (t15_0 : Int32) (t15_1 : Int32) (t16_0 : (Nat → Int32)) (lx71 : Int32) (p644 : (Int32 × Int64 × Int32 × Int32 × Int32 × (Nat → Int32) × Int32 × Int32 × (Nat → Int32))) (y615 : Int64) (y616 : Int32) (y618 : Int32) (y619 : Int32) (f620 : (Nat → Int32)) (y623 : Int32) (y624 : Int32) (f625 : (Nat → Int32)) (p690 : (Int32 × Int32 × Int32 × (Nat → Int32) × Int32 × Int32 × Int32 × Int32 × (Nat → Int32))) : Prop := if p690.1 = (0 : Int32) then (True) else (True)
def S_NH_decimal_bt_c78 (x2 : Int32) (x3 : Int32) (x4 : Int32) (x5 : Int32) (t0_0 : Int64) (t0_1 : Int32) (t1_0 : Int32) (t1_1 : Int32) (t2_0 : (Nat → Int32)) (t3_0 : Int32) (t3_1 : Int32) (t4_0 : (Nat → Int32)) (t5_0 : Int32) (t5_1 : Int32) (t6_0 : (Nat → Int32)) (t7_0 : Int32) (t7_1 : Int32) (t8_0 : (Nat → Int32)) (t9_0 : Int32) (t9_1 : Int32) (t10_0 : (Nat → Int32)) (t11_0 : Int32) (t11_1 : Int32) (t12_0 : Int32) (t12_1 : Int32) (t13_0 : (Nat → Int32)) (t14_0 : Int32) (t14_1 : Int32) (t15_0 : Int32) (t15_1 : Int32) (t16_0 : (Nat → Int32)) (lx71 : Int32) (p644 : (Int32 × Int64 × Int32 × Int32 × Int32 × (Nat → Int32) × Int32 × Int32 × (Nat → Int32))) : Prop := if (F_NH_canHave (p644.1 : Int32)) = (0 : Int32) then ((True ∧ S_NH_keepDecimal x5 (p644.2.1 : Int64) (p644.2.2.1 : Int32) (p644.2.2.2.1 : Int32) (p644.2.2.2.2.1 : Int32) (p644.2.2.2.2.2.1 : (Nat → Int32)) t9_0 t9_1 t10_0 t14_0 t14_1 t15_0 t15_1 t16_0) ∧ (S_NH_decimal_bt_c139_9 x2 x3 x4 x5 t0_0 t0_1 t1_0 t1_1 t2_0 t3_0 t3_1 t4_0 t5_0 t5_1 t6_0 t7_0 t7_1 t8_0 t9_0 t9_1 t10_0 t11_0 t11_1 t12_0 t12_1 t13_0 t14_0 t14_1 t15_0 t15_1 t16_0 lx71 p644 (p644.2.1 : Int64) (p644.2.2.1 : Int32) (p644.2.2.2.1 : Int32) (p644.2.2.2.2.1 : Int32) (p644.2.2.2.2.2.1 : (Nat → Int32)) (p644.2.2.2.2.2.2.1 : Int32) (p644.2.2.2.2.2.2.2.1 : Int32) (p644.2.2.2.2.2.2.2.2 : (Nat → Int32)) ((F_NH_keepDecimal x5 (p644.2.1 : Int64) (p644.2.2.1 : Int32) (p644.2.2.2.1 : Int32) (p644.2.2.2.2.1 : Int32) (p644.2.2.2.2.2.1 : (Nat → Int32)) t9_0 t9_1 t10_0 t14_0 t14_1 t15_0 t15_1 t16_0) : (Int32 × Int32 × Int32 × (Nat → Int32) × Int32 × Int32 × Int32 × Int32 × (Nat → Int32))))) else (True)
def S_NH_decimal_bt_c139_11 (x2 : Int32) (x3 : Int32) (x4 : Int32) (x5 : Int32) (t0_0 : Int64) (t0_1 : Int32) (t1_0 : Int32) (t1_1 : Int32) (t2_0 : (Nat → Int32)) (t3_0 : Int32) (t3_1 : Int32) (t4_0 : (Nat → Int32)) (t5_0 : Int32) (t5_1 : Int32) (t6_0 : (Nat → Int32)) (t7_0 : Int32) (t7_1 : Int32) (t8_0 : (Nat → Int32)) (t9_0 : Int32) (t9_1 : Int32) (t10_0 : (Nat → Int32)) (t11_0 : Int32) (t11_1 : Int32) (t12_0 : Int32) (t12_1 : Int32) (t13_0 : (Nat → Int32)) (t14_0 : Int32) (t14_1 : Int32) (t15_0 : Int32) (t15_1 : Int32) (t16_0 : (Nat → Int32)) (lx71 : Int32) (p788 : (Int32 × Int64 × Int32 × Int32 × Int32 × (Nat → Int32) × Int32 × Int32 × (Nat → Int32))) (y759 : Int64) (y760 : Int32) (y762 : Int32) (y763 : Int32) (f764 : (Nat → Int32)) (y767 : Int32) (y768 : Int32) (f769 : (Nat → Int32)) (p834 : (Int32 × Int32 × Int32 × (Nat → Int32) × Int32 × Int32 × Int32 × Int32 × (Nat → Int32))) : Prop := if p834.1 = (0 : Int32) then (True) else (True)
def S_NH_decimal_bt_c78_10 (x2 : Int32) (x3 : Int32) (x4 : Int32) (x5 : Int32) (t0_0 : Int64) (t0_1 : Int32) (t1_0 : Int32) (t1_1 : Int32) (t2_0 : (Nat → Int32)) (t3_0 : Int32) (t3_1 : Int32) (t4_0 : (Nat → Int32)) (t5_0 : Int32) (t5_1 : Int32) (t6_0 : (Nat → Int32)) (t7_0 : Int32) (t7_1 : Int32) (t8_0 : (Nat → Int32)) (t9_0 : Int32) (t9_1 : Int32) (t10_0 : (Nat → Int32)) (t11_0 : Int32) (t11_1 : Int32) (t12_0 : Int32) (t12_1 : Int32) (t13_0 : (Nat → Int32)) (t14_0 : Int32) (t14_1 : Int32) (t15_0 : Int32) (t15_1 : Int32) (t16_0 : (Nat → Int32)) (lx71 : Int32) (p788 : (Int32 × Int64 × Int32 × Int32 × Int32 × (Nat → Int32) × Int32 × Int32 × (Nat → Int32))) : Prop := if (F_NH_canHave (p788.1 : Int32)) = (0 : Int32) then ((True ∧ S_NH_keepDecimal x5 (p788.2.1 : Int64) (p788.2.2.1 : Int32) (p788.2.2.2.1 : Int32) (p788.2.2.2.2.1 : Int32) (p788.2.2.2.2.2.1 : (Nat → Int32)) t9_0 t9_1 t10_0 t14_0 t14_1 t15_0 t15_1 t16_0) ∧ (S_NH_decimal_bt_c139_11 x2 x3 x4 x5 t0_0 t0_1 t1_0 t1_1 t2_0 t3_0 t3_1 t4_0 t5_0 t5_1 t6_0 t7_0 t7_1 t8_0 t9_0 t9_1 t10_0 t11_0 t11_1 t12_0 t12_1 t13_0 t14_0 t14_1 t15_0 t15_1 t16_0 lx71 p788 (p788.2.1 : Int64) (p788.2.2.1 : Int32) (p788.2.2.2.1 : Int32) (p788.2.2.2.2.1 : Int32) (p788.2.2.2.2.2.1 : (Nat → Int32)) (p788.2.2.2.2.2.2.1 : Int32) (p788.2.2.2.2.2.2.2.1 : Int32) (p788.2.2.2.2.2.2.2.2 : (Nat → Int32)) ((F_NH_keepDecimal x5 (p788.2.1 : Int64) (p788.2.2.1 : Int32) (p788.2.2.2.1 : Int32) (p788.2.2.2.2.1 : Int32) (p788.2.2.2.2.2.1 : (Nat → Int32)) t9_0 t9_1 t10_0 t14_0 t14_1 t15_0 t15_1 t16_0) : (Int32 × Int32 × Int32 × (Nat → Int32) × Int32 × Int32 × Int32 × Int32 × (Nat → Int32))))) else (True)
def S_NH_decimal_bt_J36 (x2 : Int32) (x3 : Int32) (x4 : Int32) (x5 : Int32) (t0_0 : Int64) (t0_1 : Int32) (t1_0 : Int32) (t1_1 : Int32) (t2_0 : (Nat → Int32)) (t3_0 : Int32) (t3_1 : Int32) (t4_0 : (Nat → Int32)) (t5_0 : Int32) (t5_1 : Int32) (t6_0 : (Nat → Int32)) (t7_0 : Int32) (t7_1 : Int32) (t8_0 : (Nat → Int32)) (t9_0 : Int32) (t9_1 : Int32) (t10_0 : (Nat → Int32)) (t11_0 : Int32) (t11_1 : Int32) (t12_0 : Int32) (t12_1 : Int32) (t13_0 : (Nat → Int32)) (t14_0 : Int32) (t14_1 : Int32) (t15_0 : Int32) (t15_1 : Int32) (t16_0 : (Nat → Int32)) (lx71 : Int32) : Prop := if (F_NH_need lx71) = (0 : Int32) then ((0 ≤ x3.toInt) ∧ ((x3.toInt ≤ 9) ∧ ((0 ≤ x4.toInt) ∧ ((x4.toInt ≤ 9) ∧ (if (1 : Int32) < x2 then (if x2 = (2 : Int32) then (S_NH_decimal_bt_c100 x2 x3 x4 x5 t0_0 t0_1 t1_0 t1_1 t2_0 t3_0 t3_1 t4_0 t5_0 t5_1 t6_0 t7_0 t7_1 t8_0 t9_0 t9_1 t10_0 t11_0 t11_1 t12_0 t12_1 t13_0 t14_0 t14_1 t15_0 t15_1 t16_0 lx71 ((F_DW_multiply (108 : Int32) (108 : Int32) t0_0 t0_1 t1_0 t1_1 t2_0 t11_0 t11_1 t12_0 t12_1 t13_0 t14_0 t14_1 t15_0 t15_1 t16_0) : (Int64 × Int32 × Int32 × Int32 × (Nat → Int32)))) else (if t15_0 ≤ (0 : Int32) then (if (F_NH_canHave (0 : Int32)) = (0 : Int32) then ((True ∧ S_DW_rest (108 : Int32) (108 : Int32) t0_0 t0_1 t1_0 t1_1 t2_0 t3_0 t3_1 t4_0 t5_0 t5_1 t6_0 t7_0 t7_1 t8_0 t11_0 t11_1 t12_0 t12_1 t13_0 t14_0 t14_1 t15_0 t15_1 t16_0) ∧ (S_NH_decimal_bt_c133 x2 x3 x4 x5 t0_0 t0_1 t1_0 t1_1 t2_0 t3_0 t3_1 t4_0 t5_0 t5_1 t6_0 t7_0 t7_1 t8_0 t9_0 t9_1 t10_0 t11_0 t11_1 t12_0 t12_1 t13_0 t14_0 t14_1 t15_0 t15_1 t16_0 lx71 ((F_DW_rest (108 : Int32) (108 : Int32) t0_0 t0_1 t1_0 t1_1 t2_0 t3_0 t3_1 t4_0 t5_0 t5_1 t6_0 t7_0 t7_1 t8_0 t11_0 t11_1 t12_0 t12_1 t13_0 t14_0 t14_1 t15_0 t15_1 t16_0) : (Int64 × Int32 × Int32 × Int32 × (Nat → Int32) × Int32 × Int32 × (Nat → Int32) × Int32 × Int32 × (Nat → Int32) × Int32 × Int32 × (Nat → Int32) × Int32 × Int32 × (Nat → Int32))))) else (True)) else (if (F_NH_canHave (1 : Int32)) = (0 : Int32) then ((True ∧ S_DW_rest (108 : Int32) (108 : Int32) t0_0 t0_1 t1_0 t1_1 t2_0 t3_0 t3_1 t4_0 t5_0 t5_1 t6_0 t7_0 t7_1 t8_0 t11_0 t11_1 t12_0 t12_1 t13_0 t14_0 t14_1 t15_0 t15_1 t16_0) ∧ (S_NH_decimal_bt_c133_4 x2 x3 x4 x5 t0_0 t0_1 t1_0 t1_1 t2_0 t3_0 t3_1 t4_0 t5_0 t5_1 t6_0 t7_0 t7_1 t8_0 t9_0 t9_1 t10_0 t11_0 t11_1 t12_0 t12_1 t13_0 t14_0 t14_1 t15_0 t15_1 t16_0 lx71 ((F_DW_rest (108 : Int32) (108 : Int32) t0_0 t0_1 t1_0 t1_1 t2_0 t3_0 t3_1 t4_0 t5_0 t5_1 t6_0 t7_0 t7_1 t8_0 t11_0 t11_1 t12_0 t12_1 t13_0 t14_0 t14_1 t15_0 t15_1 t16_0) : (Int64 × Int32 × Int32 × Int32 × (Nat → Int32) × Int32 × Int32 × (Nat → Int32) × Int32 × Int32 × (Nat → Int32) × Int32 × Int32 × (Nat → Int32) × Int32 × Int32 × (Nat → Int32))))) else (True)))) else (if x2 = (1 : Int32) then (S_NH_decimal_bt_c78_10 x2 x3 x4 x5 t0_0 t0_1 t1_0 t1_1 t2_0 t3_0 t3_1 t4_0 t5_0 t5_1 t6_0 t7_0 t7_1 t8_0 t9_0 t9_1 t10_0 t11_0 t11_1 t12_0 t12_1 t13_0 t14_0 t14_1 t15_0 t15_1 t16_0 lx71 ((F_DW_sum (108 : Int32) (108 : Int32) (1 : Int32) t0_0 t0_1 t1_0 t1_1 t2_0 t5_0 t5_1 t6_0 t11_0 t11_1 t12_0 t12_1 t13_0 t14_0 t14_1 t15_0 t15_1 t16_0) : (Int32 × Int64 × Int32 × Int32 × Int32 × (Nat → Int32) × Int32 × Int32 × (Nat → Int32)))) else (S_NH_decimal_bt_c78 x2 x3 x4 x5 t0_0 t0_1 t1_0 t1_1 t2_0 t3_0 t3_1 t4_0 t5_0 t5_1 t6_0 t7_0 t7_1 t8_0 t9_0 t9_1 t10_0 t11_0 t11_1 t12_0 t12_1 t13_0 t14_0 t14_1 t15_0 t15_1 t16_0 lx71 ((F_DW_sum (108 : Int32) (108 : Int32) (0 : Int32) t0_0 t0_1 t1_0 t1_1 t2_0 t5_0 t5_1 t6_0 t11_0 t11_1 t12_0 t12_1 t13_0 t14_0 t14_1 t15_0 t15_1 t16_0) : (Int32 × Int64 × Int32 × Int32 × Int32 × (Nat → Int32) × Int32 × Int32 × (Nat → Int32)))))))))) else (True)
def S_NH_decimal_bt_J35 (x2 : Int32) (x3 : Int32) (x4 : Int32) (x5 : Int32) (t0_0 : Int64) (t0_1 : Int32) (t1_0 : Int32) (t1_1 : Int32) (t2_0 : (Nat → Int32)) (t3_0 : Int32) (t3_1 : Int32) (t4_0 : (Nat → Int32)) (t5_0 : Int32) (t5_1 : Int32) (t6_0 : (Nat → Int32)) (t7_0 : Int32) (t7_1 : Int32) (t8_0 : (Nat → Int32)) (t9_0 : Int32) (t9_1 : Int32) (t10_0 : (Nat → Int32)) (t11_0 : Int32) (t11_1 : Int32) (t12_0 : Int32) (t12_1 : Int32) (t13_0 : (Nat → Int32)) (t14_0 : Int32) (t14_1 : Int32) (t15_0 : Int32) (t15_1 : Int32) (t16_0 : (Nat → Int32)) : Prop := S_NH_decimal_bt_J36 x2 x3 x4 x5 t0_0 t0_1 t1_0 t1_1 t2_0 t3_0 t3_1 t4_0 t5_0 t5_1 t6_0 t7_0 t7_1 t8_0 t9_0 t9_1 t10_0 t11_0 t11_1 t12_0 t12_1 t13_0 t14_0 t14_1 t15_0 t15_1 t16_0 0
def S_NH_decimal_bt (x2 : Int32) (x3 : Int32) (x4 : Int32) (x5 : Int32) (t0_0 : Int64) (t0_1 : Int32) (t1_0 : Int32) (t1_1 : Int32) (t2_0 : (Nat → Int32)) (t3_0 : Int32) (t3_1 : Int32) (t4_0 : (Nat → Int32)) (t5_0 : Int32) (t5_1 : Int32) (t6_0 : (Nat → Int32)) (t7_0 : Int32) (t7_1 : Int32) (t8_0 : (Nat → Int32)) (t9_0 : Int32) (t9_1 : Int32) (t10_0 : (Nat → Int32)) (t11_0 : Int32) (t11_1 : Int32) (t12_0 : Int32) (t12_1 : Int32) (t13_0 : (Nat → Int32)) (t14_0 : Int32) (t14_1 : Int32) (t15_0 : Int32) (t15_1 : Int32) (t16_0 : (Nat → Int32)) : Prop := if x2 < (0 : Int32) then (S_NH_decimal_bt_J35 x2 x3 x4 x5 t0_0 t0_1 t1_0 t1_1 t2_0 t3_0 t3_1 t4_0 t5_0 t5_1 t6_0 t7_0 t7_1 t8_0 t9_0 t9_1 t10_0 t11_0 t11_1 t12_0 t12_1 t13_0 t14_0 t14_1 t15_0 t15_1 t16_0) else (if (3 : Int32) < x2 then (S_NH_decimal_bt_J35 x2 x3 x4 x5 t0_0 t0_1 t1_0 t1_1 t2_0 t3_0 t3_1 t4_0 t5_0 t5_1 t6_0 t7_0 t7_1 t8_0 t9_0 t9_1 t10_0 t11_0 t11_1 t12_0 t12_1 t13_0 t14_0 t14_1 t15_0 t15_1 t16_0) else (if ((F_NH_isRegister x3) : Int32) = (0 : Int32) then (S_NH_decimal_bt_J35 x2 x3 x4 x5 t0_0 t0_1 t1_0 t1_1 t2_0 t3_0 t3_1 t4_0 t5_0 t5_1 t6_0 t7_0 t7_1 t8_0 t9_0 t9_1 t10_0 t11_0 t11_1 t12_0 t12_1 t13_0 t14_0 t14_1 t15_0 t15_1 t16_0) else (if ((F_NH_isRegister x4) : Int32) = (0 : Int32) then (S_NH_decimal_bt_J35 x2 x3 x4 x5 t0_0 t0_1 t1_0 t1_1 t2_0 t3_0 t3_1 t4_0 t5_0 t5_1 t6_0 t7_0 t7_1 t8_0 t9_0 t9_1 t10_0 t11_0 t11_1 t12_0 t12_1 t13_0 t14_0 t14_1 t15_0 t15_1 t16_0) else (if ((F_NH_isRegister x5) : Int32) = (0 : Int32) then (S_NH_decimal_bt_J35 x2 x3 x4 x5 t0_0 t0_1 t1_0 t1_1 t2_0 t3_0 t3_1 t4_0 t5_0 t5_1 t6_0 t7_0 t7_1 t8_0 t9_0 t9_1 t10_0 t11_0 t11_1 t12_0 t12_1 t13_0 t14_0 t14_1 t15_0 t15_1 t16_0) else (S_NH_decimal_bt_J36 x2 x3 x4 x5 t0_0 t0_1 t1_0 t1_1 t2_0 t3_0 t3_1 t4_0 t5_0 t5_1 t6_0 t7_0 t7_1 t8_0 t9_0 t9_1 t10_0 t11_0 t11_1 t12_0 t12_1 t13_0 t14_0 t14_1 t15_0 t15_1 t16_0 1)))))
set_option maxRecDepth 100000 in
set_option maxHeartbeats 4000000 in
theorem X_NH_decimal_bt (l : Launch) (D : va_G) (g : Nat → ClassId) (q : Nat → Nat) (ws : va_W) (x2 : Int32) (x3 : Int32) (x4 : Int32) (x5 : Int32) (d3 : Nat) (hBd3 : q_isDec (nsh g q) g q d3 108) (yd3 : 66 ≤ d3) (gd3x3 : x3.toNatClampNeg < 10 → d3 = 68 + 5 * x3.toNatClampNeg) (d4 : Nat) (hBd4 : q_isDec (nsh g q) g q d4 108) (yd4 : 66 ≤ d4) (gd4x4 : x4.toNatClampNeg < 10 → d4 = 68 + 5 * x4.toNatClampNeg) (gd4x5 : x5.toNatClampNeg < 10 → d4 = 68 + 5 * x5.toNatClampNeg) (ne_d3_d4 : d3 ≠ d4) (ne_d3_d4p1 : d3 ≠ d4 + 1) (ne_d4_d3p1 : d4 ≠ d3 + 1) (ne_d3_d4p2 : d3 ≠ d4 + 2) (ne_d4_d3p2 : d4 ≠ d3 + 2) (hlt : l.stackTraces = false) (hI : q_I (nsh g q) q ws) (t0_0 : Int64) (t0_1 : Int32) (hT0 : ws[30]? = (some (q 30, .inr (5, [.ref (q 31), .long t0_0, .ref (q 9), .int t0_1])) : Option (Nat × va_E))) (t1_0 : Int32) (t1_1 : Int32) (hT1 : ws[10]? = (some (q 10, .inr (2, [.ref (q 11), .int t1_0, .int t1_1])) : Option (Nat × va_E))) (t2_0 : (Nat → Int32)) (hT2 : ws[11]? = (some (q 11, .inl (g 0, (220 : Int32).toNatClampNeg, .inl t2_0)) : Option (Nat × va_E))) (t3_0 : Int32) (t3_1 : Int32) (hT3 : ws[12]? = (some (q 12, .inr (2, [.ref (q 13), .int t3_0, .int t3_1])) : Option (Nat × va_E))) (t4_0 : (Nat → Int32)) (hT4 : ws[13]? = (some (q 13, .inl (g 0, (220 : Int32).toNatClampNeg, .inl t4_0)) : Option (Nat × va_E))) (t5_0 : Int32) (t5_1 : Int32) (hT5 : ws[22]? = (some (q 22, .inr (2, [.ref (q 23), .int t5_0, .int t5_1])) : Option (Nat × va_E))) (t6_0 : (Nat → Int32)) (hT6 : ws[23]? = (some (q 23, .inl (g 0, (220 : Int32).toNatClampNeg, .inl t6_0)) : Option (Nat × va_E))) (t7_0 : Int32) (t7_1 : Int32) (hT7 : ws[24]? = (some (q 24, .inr (2, [.ref (q 25), .int t7_0, .int t7_1])) : Option (Nat × va_E))) (t8_0 : (Nat → Int32)) (hT8 : ws[25]? = (some (q 25, .inl (g 0, (220 : Int32).toNatClampNeg, .inl t8_0)) : Option (Nat × va_E))) (t9_0 : Int32) (t9_1 : Int32) (hT9 : ws[20]? = (some (q 20, .inr (2, [.ref (q 21), .int t9_0, .int t9_1])) : Option (Nat × va_E))) (t10_0 : (Nat → Int32)) (hT10 : ws[21]? = (some (q 21, .inl (g 0, (220 : Int32).toNatClampNeg, .inl t10_0)) : Option (Nat × va_E))) (t11_0 : Int32) (t11_1 : Int32) (hT11 : ws[d3]? = (some (q d3, .inr (3, [.ref (q (d3 + 1)), .int t11_0, .int t11_1])) : Option (Nat × va_E))) (t12_0 : Int32) (t12_1 : Int32) (hT12 : ws[d3 + 1]? = (some (q (d3 + 1), .inr (2, [.ref (q (d3 + 2)), .int t12_0, .int t12_1])) : Option (Nat × va_E))) (t13_0 : (Nat → Int32)) (hT13 : ws[d3 + 2]? = (some (q (d3 + 2), .inl (g 0, (108 : Int32).toNatClampNeg, .inl t13_0)) : Option (Nat × va_E))) (t14_0 : Int32) (t14_1 : Int32) (hT14 : ws[d4]? = (some (q d4, .inr (3, [.ref (q (d4 + 1)), .int t14_0, .int t14_1])) : Option (Nat × va_E))) (t15_0 : Int32) (t15_1 : Int32) (hT15 : ws[d4 + 1]? = (some (q (d4 + 1), .inr (2, [.ref (q (d4 + 2)), .int t15_0, .int t15_1])) : Option (Nat × va_E))) (t16_0 : (Nat → Int32)) (hT16 : ws[d4 + 2]? = (some (q (d4 + 2), .inl (g 0, (108 : Int32).toNatClampNeg, .inl t16_0)) : Option (Nat × va_E))) (hS : True ∧ S_NH_decimal_bt x2 x3 x4 x5 t0_0 t0_1 t1_0 t1_1 t2_0 t3_0 t3_1 t4_0 t5_0 t5_1 t6_0 t7_0 t7_1 t8_0 t9_0 t9_1 t10_0 t11_0 t11_1 t12_0 t12_1 t13_0 t14_0 t14_1 t15_0 t15_1 t16_0) : ∀ sz, q_Mx l y_NH_decimal prog_1_method_11_code 7 none 9 3 18 D g [.ref (q 0), .int x2, .int x3, .int x4, .int x5] ws sz (va_Qv (fun u => q_I (nsh g q) q u ∧ q_un ws u [10, 11, 12, 13, 20, 21, 22, 23, 24, 25, 30, d4, d4 + 1, d4 + 2] ∧ ∃ (u0_0 : Int64) (u0_1 : Int32) (u1_0 : Int32) (u1_1 : Int32) (u2_0 : (Nat → Int32)) (u3_0 : Int32) (u3_1 : Int32) (u4_0 : (Nat → Int32)) (u5_0 : Int32) (u5_1 : Int32) (u6_0 : (Nat → Int32)) (u7_0 : Int32) (u7_1 : Int32) (u8_0 : (Nat → Int32)) (u9_0 : Int32) (u9_1 : Int32) (u10_0 : (Nat → Int32)) (u14_0 : Int32) (u14_1 : Int32) (u15_0 : Int32) (u15_1 : Int32) (u16_0 : (Nat → Int32)), u[30]? = (some (q 30, .inr (5, [.ref (q 31), .long u0_0, .ref (q 9), .int u0_1])) : Option (Nat × va_E)) ∧ u[10]? = (some (q 10, .inr (2, [.ref (q 11), .int u1_0, .int u1_1])) : Option (Nat × va_E)) ∧ u[11]? = (some (q 11, .inl (g 0, (220 : Int32).toNatClampNeg, .inl u2_0)) : Option (Nat × va_E)) ∧ u[12]? = (some (q 12, .inr (2, [.ref (q 13), .int u3_0, .int u3_1])) : Option (Nat × va_E)) ∧ u[13]? = (some (q 13, .inl (g 0, (220 : Int32).toNatClampNeg, .inl u4_0)) : Option (Nat × va_E)) ∧ u[22]? = (some (q 22, .inr (2, [.ref (q 23), .int u5_0, .int u5_1])) : Option (Nat × va_E)) ∧ u[23]? = (some (q 23, .inl (g 0, (220 : Int32).toNatClampNeg, .inl u6_0)) : Option (Nat × va_E)) ∧ u[24]? = (some (q 24, .inr (2, [.ref (q 25), .int u7_0, .int u7_1])) : Option (Nat × va_E)) ∧ u[25]? = (some (q 25, .inl (g 0, (220 : Int32).toNatClampNeg, .inl u8_0)) : Option (Nat × va_E)) ∧ u[20]? = (some (q 20, .inr (2, [.ref (q 21), .int u9_0, .int u9_1])) : Option (Nat × va_E)) ∧ u[21]? = (some (q 21, .inl (g 0, (220 : Int32).toNatClampNeg, .inl u10_0)) : Option (Nat × va_E)) ∧ u[d4]? = (some (q d4, .inr (3, [.ref (q (d4 + 1)), .int u14_0, .int u14_1])) : Option (Nat × va_E)) ∧ u[d4 + 1]? = (some (q (d4 + 1), .inr (2, [.ref (q (d4 + 2)), .int u15_0, .int u15_1])) : Option (Nat × va_E)) ∧ u[d4 + 2]? = (some (q (d4 + 2), .inl (g 0, (108 : Int32).toNatClampNeg, .inl u16_0)) : Option (Nat × va_E)) ∧ (0 ≤ u0_0.toInt + 20000) ∧ (u0_0.toInt ≤ 20000) ∧ (0 ≤ u0_1.toInt) ∧ (u0_1.toInt ≤ 1) ∧ (0 ≤ u1_0.toInt) ∧ (u1_0.toInt ≤ 220) ∧ (0 ≤ u1_1.toInt) ∧ (u1_1.toInt ≤ 1) ∧ (0 ≤ u3_0.toInt) ∧ (u3_0.toInt ≤ 220) ∧ (0 ≤ u3_1.toInt) ∧ (u3_1.toInt ≤ 1) ∧ (0 ≤ u5_0.toInt) ∧ (u5_0.toInt ≤ 220) ∧ (0 ≤ u5_1.toInt) ∧ (0 ≤ u7_0.toInt) ∧ (u7_0.toInt ≤ 220) ∧ (0 ≤ u7_1.toInt) ∧ (u7_1.toInt ≤ 1) ∧ (0 ≤ u9_0.toInt) ∧ (u9_0.toInt ≤ 220) ∧ (0 ≤ u9_1.toInt) ∧ (u9_1.toInt ≤ 1) ∧ (0 ≤ u14_0.toInt + 10000) ∧ (u14_0.toInt ≤ 10000) ∧ (1 ≤ u14_1.toInt) ∧ (u14_1.toInt ≤ 1000) ∧ (0 ≤ u15_0.toInt) ∧ (u15_0.toInt ≤ 108) ∧ (0 ≤ u15_1.toInt) ∧ (u15_1.toInt ≤ 1) ∧ (x3.toInt ≤ u0_0.toInt + 20009) ∧ (u0_0.toInt ≤ x3.toInt + 20000) ∧ (x4.toInt ≤ u0_0.toInt + 20009) ∧ (u0_0.toInt ≤ x4.toInt + 20000) ∧ (t11_0.toInt ≤ u0_0.toInt + 10000) ∧ (u0_0.toInt ≤ t11_0.toInt + 20000) ∧ (t14_0.toInt ≤ u0_0.toInt + 10000) ∧ (u0_0.toInt ≤ t14_0.toInt + 20000) ∧ (x3.toInt ≤ u0_1.toInt + 9) ∧ (u0_1.toInt ≤ x3.toInt + 1) ∧ (x4.toInt ≤ u0_1.toInt + 9) ∧ (u0_1.toInt ≤ x4.toInt + 1) ∧ (t0_1.toInt ≤ u0_1.toInt) ∧ (u0_1.toInt ≤ t0_1.toInt) ∧ (x3.toInt ≤ u1_0.toInt + 9) ∧ (u1_0.toInt ≤ x3.toInt + 220) ∧ (x4.toInt ≤ u1_0.toInt + 9) ∧ (u1_0.toInt ≤ x4.toInt + 220) ∧ (x3.toInt ≤ u1_1.toInt + 9) ∧ (u1_1.toInt ≤ x3.toInt + 1) ∧ (x4.toInt ≤ u1_1.toInt + 9) ∧ (u1_1.toInt ≤ x4.toInt + 1) ∧ (x3.toInt ≤ u3_0.toInt + 9) ∧ (u3_0.toInt ≤ x3.toInt + 220) ∧ (x4.toInt ≤ u3_0.toInt + 9) ∧ (u3_0.toInt ≤ x4.toInt + 220) ∧ (x3.toInt ≤ u3_1.toInt + 9) ∧ (u3_1.toInt ≤ x3.toInt + 1) ∧ (x4.toInt ≤ u3_1.toInt + 9) ∧ (u3_1.toInt ≤ x4.toInt + 1) ∧ (u3_1.toInt ≤ t3_1.toInt) ∧ (x3.toInt ≤ u5_0.toInt + 9) ∧ (u5_0.toInt ≤ x3.toInt + 220) ∧ (x4.toInt ≤ u5_0.toInt + 9) ∧ (u5_0.toInt ≤ x4.toInt + 220) ∧ (x3.toInt ≤ u5_1.toInt + 9) ∧ (x4.toInt ≤ u5_1.toInt + 9) ∧ (x3.toInt ≤ u7_0.toInt + 9) ∧ (u7_0.toInt ≤ x3.toInt + 220) ∧ (x4.toInt ≤ u7_0.toInt + 9) ∧ (u7_0.toInt ≤ x4.toInt + 220) ∧ (x3.toInt ≤ u7_1.toInt + 9) ∧ (u7_1.toInt ≤ x3.toInt + 1) ∧ (x4.toInt ≤ u7_1.toInt + 9) ∧ (u7_1.toInt ≤ x4.toInt + 1) ∧ (x3.toInt ≤ u9_0.toInt + 9) ∧ (u9_0.toInt ≤ x3.toInt + 220) ∧ (x4.toInt ≤ u9_0.toInt + 9) ∧ (u9_0.toInt ≤ x4.toInt + 220) ∧ (x5.toInt ≤ u9_0.toInt + 9) ∧ (u9_0.toInt ≤ x5.toInt + 220) ∧ (x3.toInt ≤ u9_1.toInt + 9) ∧ (u9_1.toInt ≤ x3.toInt + 1) ∧ (x4.toInt ≤ u9_1.toInt + 9) ∧ (u9_1.toInt ≤ x4.toInt + 1) ∧ (x5.toInt ≤ u9_1.toInt + 9) ∧ (u9_1.toInt ≤ x5.toInt + 1) ∧ (x3.toInt ≤ u14_0.toInt + 10009) ∧ (u14_0.toInt ≤ x3.toInt + 10000) ∧ (x4.toInt ≤ u14_0.toInt + 10009) ∧ (u14_0.toInt ≤ x4.toInt + 10000) ∧ (x5.toInt ≤ u14_0.toInt + 10009) ∧ (u14_0.toInt ≤ x5.toInt + 10000) ∧ (x3.toInt ≤ u14_1.toInt + 8) ∧ (u14_1.toInt ≤ x3.toInt + 1000) ∧ (x4.toInt ≤ u14_1.toInt + 8) ∧ (u14_1.toInt ≤ x4.toInt + 1000) ∧ (x5.toInt ≤ u14_1.toInt + 8) ∧ (u14_1.toInt ≤ x5.toInt + 1000) ∧ (x3.toInt ≤ u15_0.toInt + 9) ∧ (u15_0.toInt ≤ x3.toInt + 108) ∧ (x4.toInt ≤ u15_0.toInt + 9) ∧ (u15_0.toInt ≤ x4.toInt + 108) ∧ (x5.toInt ≤ u15_0.toInt + 9) ∧ (u15_0.toInt ≤ x5.toInt + 108) ∧ (x3.toInt ≤ u15_1.toInt + 9) ∧ (u15_1.toInt ≤ x3.toInt + 1) ∧ (x4.toInt ≤ u15_1.toInt + 9) ∧ (u15_1.toInt ≤ x4.toInt + 1) ∧ (x5.toInt ≤ u15_1.toInt + 9) ∧ (u15_1.toInt ≤ x5.toInt + 1) ∧ ((0 : Int32), u0_0, u0_1, u1_0, u1_1, u2_0, u3_0, u3_1, u4_0, u5_0, u5_1, u6_0, u7_0, u7_1, u8_0, u9_0, u9_1, u10_0, u14_0, u14_1, u15_0, u15_1, u16_0) = (F_NH_decimal_bt x2 x3 x4 x5 t0_0 t0_1 t1_0 t1_1 t2_0 t3_0 t3_1 t4_0 t5_0 t5_1 t6_0 t7_0 t7_1 t8_0 t9_0 t9_1 t10_0 t11_0 t11_1 t12_0 t12_1 t13_0 t14_0 t14_1 t15_0 t15_1 t16_0)) (q_B D g (va_A ws sz)) (va_A ws sz)) (fun E u => ∃ c : Int32, E = qE c ∧ c ≠ 0 ∧ q_I (nsh g q) q u ∧ q_un ws u [10, 11, 12, 13, 20, 21, 22, 23, 24, 25, 30, d4, d4 + 1, d4 + 2] ∧ ∃ (u0_0 : Int64) (u0_1 : Int32) (u1_0 : Int32) (u1_1 : Int32) (u2_0 : (Nat → Int32)) (u3_0 : Int32) (u3_1 : Int32) (u4_0 : (Nat → Int32)) (u5_0 : Int32) (u5_1 : Int32) (u6_0 : (Nat → Int32)) (u7_0 : Int32) (u7_1 : Int32) (u8_0 : (Nat → Int32)) (u9_0 : Int32) (u9_1 : Int32) (u10_0 : (Nat → Int32)) (u14_0 : Int32) (u14_1 : Int32) (u15_0 : Int32) (u15_1 : Int32) (u16_0 : (Nat → Int32)), u[30]? = (some (q 30, .inr (5, [.ref (q 31), .long u0_0, .ref (q 9), .int u0_1])) : Option (Nat × va_E)) ∧ u[10]? = (some (q 10, .inr (2, [.ref (q 11), .int u1_0, .int u1_1])) : Option (Nat × va_E)) ∧ u[11]? = (some (q 11, .inl (g 0, (220 : Int32).toNatClampNeg, .inl u2_0)) : Option (Nat × va_E)) ∧ u[12]? = (some (q 12, .inr (2, [.ref (q 13), .int u3_0, .int u3_1])) : Option (Nat × va_E)) ∧ u[13]? = (some (q 13, .inl (g 0, (220 : Int32).toNatClampNeg, .inl u4_0)) : Option (Nat × va_E)) ∧ u[22]? = (some (q 22, .inr (2, [.ref (q 23), .int u5_0, .int u5_1])) : Option (Nat × va_E)) ∧ u[23]? = (some (q 23, .inl (g 0, (220 : Int32).toNatClampNeg, .inl u6_0)) : Option (Nat × va_E)) ∧ u[24]? = (some (q 24, .inr (2, [.ref (q 25), .int u7_0, .int u7_1])) : Option (Nat × va_E)) ∧ u[25]? = (some (q 25, .inl (g 0, (220 : Int32).toNatClampNeg, .inl u8_0)) : Option (Nat × va_E)) ∧ u[20]? = (some (q 20, .inr (2, [.ref (q 21), .int u9_0, .int u9_1])) : Option (Nat × va_E)) ∧ u[21]? = (some (q 21, .inl (g 0, (220 : Int32).toNatClampNeg, .inl u10_0)) : Option (Nat × va_E)) ∧ u[d4]? = (some (q d4, .inr (3, [.ref (q (d4 + 1)), .int u14_0, .int u14_1])) : Option (Nat × va_E)) ∧ u[d4 + 1]? = (some (q (d4 + 1), .inr (2, [.ref (q (d4 + 2)), .int u15_0, .int u15_1])) : Option (Nat × va_E)) ∧ u[d4 + 2]? = (some (q (d4 + 2), .inl (g 0, (108 : Int32).toNatClampNeg, .inl u16_0)) : Option (Nat × va_E)) ∧ (c, u0_0, u0_1, u1_0, u1_1, u2_0, u3_0, u3_1, u4_0, u5_0, u5_1, u6_0, u7_0, u7_1, u8_0, u9_0, u9_1, u10_0, u14_0, u14_1, u15_0, u15_1, u16_0) = (F_NH_decimal_bt x2 x3 x4 x5 t0_0 t0_1 t1_0 t1_1 t2_0 t3_0 t3_1 t4_0 t5_0 t5_1 t6_0 t7_0 t7_1 t8_0 t9_0 t9_1 t10_0 t11_0 t11_1 t12_0 t12_1 t13_0 t14_0 t14_1 t15_0 t15_1 t16_0)) := by
  intro sz
  refine q_intoX (by decide) (Nat.le_of_ble_eq_true rfl) ?_
  intro p e s m below meth c ls hsz C0 V hno hl
  have hx := C0.1
  have hb := C0.2.1
  have btt0_1 := n_w30 hI hT0
  replace btt0_1 : q_F (0 ≤ t0_1.toInt ∧ t0_1.toInt ≤ 1) := btt0_1
  have btt1_1 := (q_bigW hI (n_b10 g q) hT1).2
  clear btt1_1
  obtain ⟨btt3_0, btt3_1⟩ := q_bigW hI (n_b12 g q) hT3
  replace btt3_0 : q_F (0 ≤ t3_0.toInt ∧ t3_0.toInt ≤ 220) := btt3_0
  replace btt3_1 : q_F (0 ≤ t3_1.toInt ∧ t3_1.toInt ≤ 1) := btt3_1
  obtain ⟨btt5_0, btt5_1⟩ := q_bigW hI (n_b22 g q) hT5
  replace btt5_0 : q_F (0 ≤ t5_0.toInt ∧ t5_0.toInt ≤ 220) := btt5_0
  replace btt5_1 : q_F (0 ≤ t5_1.toInt ∧ t5_1.toInt ≤ 1) := btt5_1
  obtain ⟨btt7_0, btt7_1⟩ := q_bigW hI (n_b24 g q) hT7
  replace btt7_0 : q_F (0 ≤ t7_0.toInt ∧ t7_0.toInt ≤ 220) := btt7_0
  replace btt7_1 : q_F (0 ≤ t7_1.toInt ∧ t7_1.toInt ≤ 1) := btt7_1
  have btt9_1 := (q_bigW hI (n_b20 g q) hT9).2
  clear btt9_1
  have btt11_0 := (n_deW hI hBd3 hT11).1
  replace btt11_0 : q_F (-10000 ≤ t11_0.toInt ∧ t11_0.toInt ≤ 10000) := btt11_0
  have btt12_1 := (q_bigW hI hBd3.2 hT12).2
  clear btt12_1
  have btt14_0 := (n_deW hI hBd4 hT14).1
  replace btt14_0 : q_F (-10000 ≤ t14_0.toInt ∧ t14_0.toInt ≤ 10000) := btt14_0
  have btt15_1 := (q_bigW hI hBd4.2 hT15).2
  clear btt15_1
  have hF : q_un ws ws [10, 11, 12, 13, 20, 21, 22, 23, 24, 25, 30, d4, d4 + 1, d4 + 2] := q_u0
  have hl : lv_has ls 7 [(0, .ref (q 0)), (1, .int x2), (2, .int x3), (3, .int x4), (4, .int x5)] := hl
  refine lv_iload_n hx hb d_1_11_0 rfl (lv_at hl 1 rfl) ?_
  refine q_join (X := Int32) (fun z H locs ls _ => q_F (0 ≤ z.toInt) ∧ q_F (z.toInt ≤ 1) ∧ q_Wd D g (va_A ws sz) s ws H locs ∧ lv_has ls 7 [(0, .ref (q 0)), (1, .int x2), (2, .int x3), (3, .int x4), (4, .int x5)] ∧ F_NH_decimal_bt_J36 x2 x3 x4 x5 t0_0 t0_1 t1_0 t1_1 t2_0 t3_0 t3_1 t4_0 t5_0 t5_1 t6_0 t7_0 t7_1 t8_0 t9_0 t9_1 t10_0 t11_0 t11_1 t12_0 t12_1 t13_0 t14_0 t14_1 t15_0 t15_1 t16_0 z = (F_NH_decimal_bt x2 x3 x4 x5 t0_0 t0_1 t1_0 t1_1 t2_0 t3_0 t3_1 t4_0 t5_0 t5_1 t6_0 t7_0 t7_1 t8_0 t9_0 t9_1 t10_0 t11_0 t11_1 t12_0 t12_1 t13_0 t14_0 t14_1 t15_0 t15_1 t16_0) ∧ True ∧ S_NH_decimal_bt_J36 x2 x3 x4 x5 t0_0 t0_1 t1_0 t1_1 t2_0 t3_0 t3_1 t4_0 t5_0 t5_1 t6_0 t7_0 t7_1 t8_0 t9_0 t9_1 t10_0 t11_0 t11_1 t12_0 t12_1 t13_0 t14_0 t14_1 t15_0 t15_1 t16_0 z) (fun z => [.int z]) 36 0 0 ?_ ?_
  ·
    rintro lx71 H locs ls _ hZ9
    obtain ⟨i90, hZ9⟩ := hZ9
    obtain ⟨i91, hZ9⟩ := hZ9
    obtain ⟨V, hZ9⟩ := hZ9
    obtain ⟨hl, hZ9⟩ := hZ9
    obtain ⟨hR92, hS93⟩ := hZ9
    replace i90 : q_F (0 ≤ lx71.toInt) := i90
    replace i91 : q_F (lx71.toInt ≤ 1) := i91
    replace hl : lv_has ls 7 [(0, .ref (q 0)), (1, .int x2), (2, .int x3), (3, .int x4), (4, .int x5)] := hl
    refine q_goxv V (q_runSX (As := [.int lx71]) (rest := []) (d := 7) (mc := 1) (ms := 6) C0 V rfl LS_NH_104 (X_NH_need l D g q ws  lx71 hlt hI  ⟨(by first | with_reducible exact q_fe i90 | (have t1 : 0 ≤ lx71.toInt := i90; omega)), (by first | with_reducible exact q_fe i91 | (have t1 : lx71.toInt ≤ 1 := i91; omega))⟩ _) rfl hl.1 rfl (Nat.le_of_ble_eq_true rfl) ⟨by decide, by decide⟩ ⟨Nat.le_of_ble_eq_true rfl, Nat.le_of_ble_eq_true rfl⟩ d_1_11_36) (fun qx Ex ce u97 H locs hp98 V hce hcv hcl => ?_) (fun u97 H locs hp98 V => ?_)
    ·
      obtain ⟨cx100, he101, hc102, rfl, hE99⟩ := hp98
      have c103 : ¬ (F_NH_need lx71) = (0 : Int32) := fun z => hc102 (((hE99) : cx100 = _).trans z)
      exact q_outT hno C0 V (⟨(F_NH_need lx71), (he101.trans (congrArg qE ((hE99) : cx100 = _))), c103, hI, hF, t0_0, t0_1, t1_0, t1_1, t2_0, t3_0, t3_1, t4_0, t5_0, t5_1, t6_0, t7_0, t7_1, t8_0, t9_0, t9_1, t10_0, t14_0, t14_1, t15_0, t15_1, t16_0, hT0, hT1, hT2, hT3, hT4, hT5, hT6, hT7, hT8, hT9, hT10, hT14, hT15, hT16, (show ((F_NH_need lx71), t0_0, t0_1, t1_0, t1_1, t2_0, t3_0, t3_1, t4_0, t5_0, t5_1, t6_0, t7_0, t7_1, t8_0, t9_0, t9_1, t10_0, t14_0, t14_1, t15_0, t15_1, t16_0) = (F_NH_decimal_bt x2 x3 x4 x5 t0_0 t0_1 t1_0 t1_1 t2_0 t3_0 t3_1 t4_0 t5_0 t5_1 t6_0 t7_0 t7_1 t8_0 t9_0 t9_1 t10_0 t11_0 t11_1 t12_0 t12_1 t13_0 t14_0 t14_1 t15_0 t15_1 t16_0) from Eq.trans (by rw [F_NH_decimal_bt_J36.eq_1, if_neg c103]) hR92)⟩) hce hcv hcl (Nat.le_of_ble_eq_true rfl) (Nat.le_of_ble_eq_true rfl)
    ·
      obtain ⟨rfl, hE104⟩ := hp98
      have c103 : (F_NH_need lx71) = (0 : Int32) := ((hE104) : (0 : Int32) = _).symm
      refine lv_aload_n hx hb d_1_11_39 rfl (lv_at hl 0 rfl) ?_
      have hO106 := n_o0 hI
      refine q_get (ci := 0) (j := 3) (v := .ref (q 6)) C0 V i_NH rfl rfl hO106 (by decide) w_427 rfl d_1_11_40 ?_
      refine lv_iload_n hx hb d_1_11_43 rfl (lv_at hl 2 rfl) ?_
      have hX107 := n_fx hI (n_s6 g q)
      have ob108 : q_F (0 ≤ x3.toInt) := (by have h := hS93; rw [S_NH_decimal_bt_J36.eq_1] at h; rw [if_pos c103] at h; exact h.2.1)
      have ob109 : q_F (x3.toInt ≤ 9) := (by have h := hS93; rw [S_NH_decimal_bt_J36.eq_1] at h; rw [if_pos c103] at h; replace h := q_s2 h; exact h.2.1)
      have hj110 : x3.toNatClampNeg < 10 := by have z := q_clI (i := x3) (x := x3.toInt) rfl (by first | with_reducible exact q_fe ob108 | (have t1 : 0 ≤ x3.toInt := ob108; omega)); have t1 : 0 ≤ x3.toInt := ob108; have t2 : x3.toInt ≤ 9 := ob109; omega
      have hq111 := gd3x3 hj110
      refine q_aald (t := 5) (q := q d3) C0 V hX107 rfl (q_ix (x := x3.toInt) rfl (by first | with_reducible exact q_fe ob108 | (have t1 : 0 ≤ x3.toInt := ob108; omega)) (by have t1 : 0 ≤ x3.toInt := ob108; have t2 : x3.toInt ≤ 9 := ob109; omega)) (by rw [hq111]; exact n_fdv hj110) d_1_11_44 ?_
      refine lv_astore (lv' := [(5, .ref (q d3)), (0, .ref (q 0)), (1, .int x2), (2, .int x3), (3, .int x4), (4, .int x5)]) hx hb d_1_11_45 hl (by decide) rfl (fun ls hl => ?_)
      refine lv_aload_n hx hb d_1_11_47 rfl (lv_at hl 1 rfl) ?_
      refine q_get (ci := 0) (j := 3) (v := .ref (q 6)) C0 V i_NH rfl rfl hO106 (by decide) w_427 rfl d_1_11_48 ?_
      refine lv_iload_n hx hb d_1_11_51 rfl (lv_at hl 4 rfl) ?_
      have hX112 := n_fx hI (n_s6 g q)
      have ob113 : q_F (0 ≤ x4.toInt) := (by have h := hS93; rw [S_NH_decimal_bt_J36.eq_1] at h; rw [if_pos c103] at h; replace h := q_s2 h; replace h := q_s2 h; exact h.2.1)
      have ob114 : q_F (x4.toInt ≤ 9) := (by have h := hS93; rw [S_NH_decimal_bt_J36.eq_1] at h; rw [if_pos c103] at h; replace h := q_s2 h; replace h := q_s2 h; replace h := q_s2 h; exact h.2.1)
      have hj115 : x4.toNatClampNeg < 10 := by have z := q_clI (i := x4) (x := x4.toInt) rfl (by first | with_reducible exact q_fe ob113 | (have t1 : 0 ≤ x4.toInt := ob113; omega)); have t1 : 0 ≤ x4.toInt := ob113; have t2 : x4.toInt ≤ 9 := ob114; omega
      have hq116 := gd4x4 hj115
      refine q_aald (t := 5) (q := q d4) C0 V hX112 rfl (q_ix (x := x4.toInt) rfl (by first | with_reducible exact q_fe ob113 | (have t1 : 0 ≤ x4.toInt := ob113; omega)) (by have t1 : 0 ≤ x4.toInt := ob113; have t2 : x4.toInt ≤ 9 := ob114; omega)) (by rw [hq116]; exact n_fdv hj115) d_1_11_52 ?_
      refine lv_astore (lv' := [(6, .ref (q d4)), (5, .ref (q d3)), (0, .ref (q 0)), (1, .int x2), (2, .int x3), (3, .int x4), (4, .int x5)]) hx hb d_1_11_53 hl (by decide) rfl (fun ls hl => ?_)
      refine lv_iload_n hx hb d_1_11_55 rfl (lv_at hl 3 rfl) ?_
      refine lv_iconst (v := 1) hx hb d_1_11_56 (by decide) ?_
      refine lv_icmp_gt (tgt := 87) hx hb d_1_11_57 (by decide) (fun c117 => ?_) (fun c117 => ?_)
      ·
        refine lv_iload_n hx hb d_1_11_87 rfl (lv_at hl 3 rfl) ?_
        refine lv_iconst (v := 2) hx hb d_1_11_88 (by decide) ?_
        refine lv_icmp_ne (tgt := 106) hx hb d_1_11_89 (by decide) (fun c119 => ?_) (fun c119 => ?_)
        ·
          refine lv_aload hx hb d_1_11_106 (lv_at hl 0 rfl) ?_
          refine q_get (ci := 3) (j := 0) (v := .ref (q (d4 + 1))) C0 V i_Dec rfl rfl hT14 (by decide) w_174 rfl d_1_11_108 ?_
          refine q_get (ci := 2) (j := 1) (v := .int t15_0) C0 V i_Big rfl rfl hT15 (by decide) w_91 rfl d_1_11_111 ?_
          refine lv_if_le (tgt := 121) hx hb d_1_11_114 (by decide) (fun c121 => ?_) (fun c121 => ?_)
          ·
            refine lv_iconst (v := 0) hx hb d_1_11_121 (by decide) ?_
            refine q_goxv V (q_runSX (As := [.int 0]) (rest := []) (d := 7) (mc := 1) (ms := 6) C0 V rfl LS_NH_138 (X_NH_canHave l D g q ws  0 hlt hI  ⟨(by have y0 : (0 : Int32).toInt = 0 := rfl; omega), (by have y0 : (0 : Int32).toInt = 0 := rfl; omega)⟩ _) rfl hl.1 rfl (Nat.le_of_ble_eq_true rfl) ⟨by decide, by decide⟩ ⟨Nat.le_of_ble_eq_true rfl, Nat.le_of_ble_eq_true rfl⟩ d_1_11_122) (fun qx Ex ce u123 H locs hp124 V hce hcv hcl => ?_) (fun u123 H locs hp124 V => ?_)
            ·
              obtain ⟨cx126, he127, hc128, rfl, hE125⟩ := hp124
              have c129 : ¬ (F_NH_canHave (0 : Int32)) = (0 : Int32) := fun z => hc128 (((hE125) : cx126 = _).trans z)
              exact q_outT hno C0 V (⟨(F_NH_canHave (0 : Int32)), (he127.trans (congrArg qE ((hE125) : cx126 = _))), c129, hI, hF, t0_0, t0_1, t1_0, t1_1, t2_0, t3_0, t3_1, t4_0, t5_0, t5_1, t6_0, t7_0, t7_1, t8_0, t9_0, t9_1, t10_0, t14_0, t14_1, t15_0, t15_1, t16_0, hT0, hT1, hT2, hT3, hT4, hT5, hT6, hT7, hT8, hT9, hT10, hT14, hT15, hT16, (show ((F_NH_canHave (0 : Int32)), t0_0, t0_1, t1_0, t1_1, t2_0, t3_0, t3_1, t4_0, t5_0, t5_1, t6_0, t7_0, t7_1, t8_0, t9_0, t9_1, t10_0, t14_0, t14_1, t15_0, t15_1, t16_0) = (F_NH_decimal_bt x2 x3 x4 x5 t0_0 t0_1 t1_0 t1_1 t2_0 t3_0 t3_1 t4_0 t5_0 t5_1 t6_0 t7_0 t7_1 t8_0 t9_0 t9_1 t10_0 t11_0 t11_1 t12_0 t12_1 t13_0 t14_0 t14_1 t15_0 t15_1 t16_0) from Eq.trans (by rw [F_NH_decimal_bt_J36.eq_1, if_pos c103, if_pos c117, if_neg c119, if_pos c121, if_neg c129]) hR92)⟩) hce hcv hcl (Nat.le_of_ble_eq_true rfl) (Nat.le_of_ble_eq_true rfl)
            ·
              obtain ⟨rfl, hE130⟩ := hp124
              have c129 : (F_NH_canHave (0 : Int32)) = (0 : Int32) := ((hE130) : (0 : Int32) = _).symm
              refine lv_aload_n hx hb d_1_11_125 rfl (lv_at hl 2 rfl) ?_
              refine q_get (ci := 0) (j := 7) (v := .ref (q 30)) C0 V i_NH rfl rfl hO106 (by decide) w_431 rfl d_1_11_126 ?_
              refine lv_aload hx hb d_1_11_129 (lv_at hl 1 rfl) ?_
              refine lv_aload hx hb d_1_11_131 (lv_at hl 0 rfl) ?_
              have ob132 : True ∧ S_DW_rest (108 : Int32) (108 : Int32) t0_0 t0_1 t1_0 t1_1 t2_0 t3_0 t3_1 t4_0 t5_0 t5_1 t6_0 t7_0 t7_1 t8_0 t11_0 t11_1 t12_0 t12_1 t13_0 t14_0 t14_1 t15_0 t15_1 t16_0 := (by have h := hS93; rw [S_NH_decimal_bt_J36.eq_1] at h; rw [if_pos c103] at h; replace h := q_s2 h; replace h := q_s2 h; replace h := q_s2 h; replace h := q_s2 h; rw [if_pos c117] at h; rw [if_neg c119] at h; rw [if_pos c121] at h; rw [if_pos c129] at h; with_reducible exact h.2.1)
              refine q_gov V (q_runV (As := [.ref (q d3), .ref (q d4)]) (rest := []) (d := 6) (mc := 0) (ms := 0) (ci := 5) C0 V rfl LV_NH_278 (X_DW_rest l D g q ws d3 108 hBd3 (Or.inr yd3) d4 108 hBd4 (Or.inr yd4)  (by have z0 := yd3; omega) (by have z0 := yd3; omega) (by have z0 := yd3; omega) (by have z0 := yd3; omega) (by have z0 := yd3; omega) (by have z0 := yd3; omega) (by have z0 := yd3; omega) (by have z0 := yd3; omega) (by have z0 := yd3; omega) (by have z0 := yd3; omega) (by have z0 := yd3; omega) (by have z0 := yd3; omega) (by have z0 := yd3; omega) (by have z0 := yd3; omega) (by have z0 := yd3; omega) (by have z0 := yd3; omega) (by have z0 := yd4; omega) (by have z0 := yd4; omega) (by have z0 := yd4; omega) (by have z0 := yd4; omega) (by have z0 := yd4; omega) (by have z0 := yd4; omega) (by have z0 := yd4; omega) (by have z0 := yd4; omega) (by have z0 := yd4; omega) (by have z0 := yd4; omega) (by have z0 := yd4; omega) (by have z0 := yd4; omega) (by have z0 := yd4; omega) (by have z0 := yd4; omega) (by have z0 := yd4; omega) (by have z0 := yd4; omega) (by have z := ne_d3_d4; omega) (by have z := ne_d3_d4p1; omega) (by have z := ne_d3_d4p2; omega) (by have z := ne_d4_d3p1; omega) (by have z := ne_d4_d3p2; omega) hI t0_0 t0_1 hT0 t1_0 t1_1 hT1 t2_0 hT2 t3_0 t3_1 hT3 t4_0 hT4 t5_0 t5_1 hT5 t6_0 hT6 t7_0 t7_1 hT7 t8_0 hT8 t11_0 t11_1 hT11 t12_0 t12_1 hT12 t13_0 hT13 t14_0 t14_1 hT14 t15_0 t15_1 hT15 t16_0 hT16 ob132 _) rfl rfl hT0 rfl hl.1 rfl (Nat.le_of_ble_eq_true rfl) ⟨by decide, by decide⟩ ⟨Nat.le_of_ble_eq_true rfl, Nat.le_of_ble_eq_true rfl⟩ d_1_11_133) (fun u133 H locs hp134 V => ?_)
              obtain ⟨hI, hZ9⟩ := hp134
              obtain ⟨hu195, hZ9⟩ := hZ9
              obtain ⟨y136, hZ9⟩ := hZ9
              obtain ⟨y137, hZ9⟩ := hZ9
              obtain ⟨y139, hZ9⟩ := hZ9
              obtain ⟨y140, hZ9⟩ := hZ9
              obtain ⟨f141, hZ9⟩ := hZ9
              obtain ⟨y144, hZ9⟩ := hZ9
              obtain ⟨y145, hZ9⟩ := hZ9
              obtain ⟨f146, hZ9⟩ := hZ9
              obtain ⟨y149, hZ9⟩ := hZ9
              obtain ⟨y150, hZ9⟩ := hZ9
              obtain ⟨f151, hZ9⟩ := hZ9
              obtain ⟨y154, hZ9⟩ := hZ9
              obtain ⟨y155, hZ9⟩ := hZ9
              obtain ⟨f156, hZ9⟩ := hZ9
              obtain ⟨y159, hZ9⟩ := hZ9
              obtain ⟨y160, hZ9⟩ := hZ9
              obtain ⟨f161, hZ9⟩ := hZ9
              obtain ⟨hO135, hZ9⟩ := hZ9
              obtain ⟨hO138, hZ9⟩ := hZ9
              obtain ⟨hA142, hZ9⟩ := hZ9
              obtain ⟨hO143, hZ9⟩ := hZ9
              obtain ⟨hA147, hZ9⟩ := hZ9
              obtain ⟨hO148, hZ9⟩ := hZ9
              obtain ⟨hA152, hZ9⟩ := hZ9
              obtain ⟨hO153, hZ9⟩ := hZ9
              obtain ⟨hA157, hZ9⟩ := hZ9
              obtain ⟨hO158, hZ9⟩ := hZ9
              obtain ⟨hA162, hZ9⟩ := hZ9
              obtain ⟨b163, hZ9⟩ := hZ9
              obtain ⟨b164, hZ9⟩ := hZ9
              obtain ⟨b165, hZ9⟩ := hZ9
              obtain ⟨b166, hZ9⟩ := hZ9
              obtain ⟨b167, hZ9⟩ := hZ9
              obtain ⟨b168, hZ9⟩ := hZ9
              obtain ⟨b169, hZ9⟩ := hZ9
              obtain ⟨b170, hZ9⟩ := hZ9
              obtain ⟨b171, hZ9⟩ := hZ9
              obtain ⟨b172, hZ9⟩ := hZ9
              obtain ⟨b173, hZ9⟩ := hZ9
              obtain ⟨b174, hZ9⟩ := hZ9
              obtain ⟨b175, hZ9⟩ := hZ9
              obtain ⟨b176, hZ9⟩ := hZ9
              obtain ⟨b177, hZ9⟩ := hZ9
              obtain ⟨b178, hZ9⟩ := hZ9
              obtain ⟨b179, hZ9⟩ := hZ9
              obtain ⟨b180, hZ9⟩ := hZ9
              obtain ⟨b181, hZ9⟩ := hZ9
              replace hZ9 := hZ9.2.2.2.2
              obtain ⟨b186, hZ9⟩ := hZ9
              obtain ⟨b187, hZ9⟩ := hZ9
              obtain ⟨b188, hZ9⟩ := hZ9
              obtain ⟨b189, hZ9⟩ := hZ9
              replace hZ9 := hZ9.2
              obtain ⟨b191, hZ9⟩ := hZ9
              replace hZ9 := hZ9.2
              obtain ⟨-, hE194⟩ := hZ9
              replace hO135 : u133[30]? = (some (q 30, .inr (5, [.ref (q 31), .long y136, .ref (q 9), .int y137])) : Option (Nat × va_E)) := hO135
              replace hO138 : u133[10]? = (some (q 10, .inr (2, [.ref (q 11), .int y139, .int y140])) : Option (Nat × va_E)) := hO138
              replace hA142 : u133[11]? = (some (q 11, .inl (g 0, (220 : Int32).toNatClampNeg, .inl f141)) : Option (Nat × va_E)) := hA142
              replace hO143 : u133[12]? = (some (q 12, .inr (2, [.ref (q 13), .int y144, .int y145])) : Option (Nat × va_E)) := hO143
              replace hA147 : u133[13]? = (some (q 13, .inl (g 0, (220 : Int32).toNatClampNeg, .inl f146)) : Option (Nat × va_E)) := hA147
              replace hO148 : u133[22]? = (some (q 22, .inr (2, [.ref (q 23), .int y149, .int y150])) : Option (Nat × va_E)) := hO148
              replace hA152 : u133[23]? = (some (q 23, .inl (g 0, (220 : Int32).toNatClampNeg, .inl f151)) : Option (Nat × va_E)) := hA152
              replace hO153 : u133[24]? = (some (q 24, .inr (2, [.ref (q 25), .int y154, .int y155])) : Option (Nat × va_E)) := hO153
              replace hA157 : u133[25]? = (some (q 25, .inl (g 0, (220 : Int32).toNatClampNeg, .inl f156)) : Option (Nat × va_E)) := hA157
              replace hO158 : u133[d4 + 1]? = (some (q (d4 + 1), .inr (2, [.ref (q (d4 + 2)), .int y159, .int y160])) : Option (Nat × va_E)) := hO158
              replace hA162 : u133[d4 + 2]? = (some (q (d4 + 2), .inl (g 0, (108 : Int32).toNatClampNeg, .inl f161)) : Option (Nat × va_E)) := hA162
              obtain ⟨p196, e197⟩ : ∃ z, z = (F_DW_rest (108 : Int32) (108 : Int32) t0_0 t0_1 t1_0 t1_1 t2_0 t3_0 t3_1 t4_0 t5_0 t5_1 t6_0 t7_0 t7_1 t8_0 t11_0 t11_1 t12_0 t12_1 t13_0 t14_0 t14_1 t15_0 t15_1 t16_0) := ⟨_, rfl⟩
              have e198 : y136 = p196.1 := congrArg (fun z => z.1) (hE194.trans e197.symm)
              have e199 : y137 = p196.2.1 := congrArg (fun z => z.2.1) (hE194.trans e197.symm)
              have e200 : y139 = p196.2.2.1 := congrArg (fun z => z.2.2.1) (hE194.trans e197.symm)
              have e201 : y140 = p196.2.2.2.1 := congrArg (fun z => z.2.2.2.1) (hE194.trans e197.symm)
              have e202 : f141 = p196.2.2.2.2.1 := congrArg (fun z => z.2.2.2.2.1) (hE194.trans e197.symm)
              have e203 : y144 = p196.2.2.2.2.2.1 := congrArg (fun z => z.2.2.2.2.2.1) (hE194.trans e197.symm)
              have e204 : y145 = p196.2.2.2.2.2.2.1 := congrArg (fun z => z.2.2.2.2.2.2.1) (hE194.trans e197.symm)
              have e205 : f146 = p196.2.2.2.2.2.2.2.1 := congrArg (fun z => z.2.2.2.2.2.2.2.1) (hE194.trans e197.symm)
              have e206 : y149 = p196.2.2.2.2.2.2.2.2.1 := congrArg (fun z => z.2.2.2.2.2.2.2.2.1) (hE194.trans e197.symm)
              have e207 : y150 = p196.2.2.2.2.2.2.2.2.2.1 := congrArg (fun z => z.2.2.2.2.2.2.2.2.2.1) (hE194.trans e197.symm)
              have e208 : f151 = p196.2.2.2.2.2.2.2.2.2.2.1 := congrArg (fun z => z.2.2.2.2.2.2.2.2.2.2.1) (hE194.trans e197.symm)
              have e209 : y154 = p196.2.2.2.2.2.2.2.2.2.2.2.1 := congrArg (fun z => z.2.2.2.2.2.2.2.2.2.2.2.1) (hE194.trans e197.symm)
              have e210 : y155 = p196.2.2.2.2.2.2.2.2.2.2.2.2.1 := congrArg (fun z => z.2.2.2.2.2.2.2.2.2.2.2.2.1) (hE194.trans e197.symm)
              have e211 : f156 = p196.2.2.2.2.2.2.2.2.2.2.2.2.2.1 := congrArg (fun z => z.2.2.2.2.2.2.2.2.2.2.2.2.2.1) (hE194.trans e197.symm)
              have e212 : y159 = p196.2.2.2.2.2.2.2.2.2.2.2.2.2.2.1 := congrArg (fun z => z.2.2.2.2.2.2.2.2.2.2.2.2.2.2.1) (hE194.trans e197.symm)
              have e213 : y160 = p196.2.2.2.2.2.2.2.2.2.2.2.2.2.2.2.1 := congrArg (fun z => z.2.2.2.2.2.2.2.2.2.2.2.2.2.2.2.1) (hE194.trans e197.symm)
              have e214 : f161 = p196.2.2.2.2.2.2.2.2.2.2.2.2.2.2.2.2 := congrArg (fun z => z.2.2.2.2.2.2.2.2.2.2.2.2.2.2.2.2) (hE194.trans e197.symm)
              replace b163 : q_F (0 ≤ y136.toInt + 10000) := b163
              replace b164 : q_F (y136.toInt ≤ 10000) := b164
              replace b165 : q_F (0 ≤ y137.toInt) := b165
              replace b166 : q_F (y137.toInt ≤ 1) := b166
              replace b167 : q_F (0 ≤ y139.toInt) := b167
              replace b168 : q_F (y139.toInt ≤ 220) := b168
              replace b169 : q_F (0 ≤ y140.toInt) := b169
              replace b170 : q_F (y140.toInt ≤ 1) := b170
              replace b171 : q_F (0 ≤ y144.toInt) := b171
              replace b172 : q_F (y144.toInt ≤ 220) := b172
              replace b173 : q_F (0 ≤ y145.toInt) := b173
              replace b174 : q_F (y145.toInt ≤ 1) := b174
              replace b175 : q_F (0 ≤ y149.toInt) := b175
              replace b176 : q_F (y149.toInt ≤ 220) := b176
              replace b177 : q_F (0 ≤ y150.toInt) := b177
              replace b178 : q_F (0 ≤ y154.toInt) := b178
              replace b179 : q_F (y154.toInt ≤ 220) := b179
              replace b180 : q_F (0 ≤ y155.toInt) := b180
              replace b181 : q_F (y155.toInt ≤ 1) := b181
              replace b186 : q_F (t11_0.toInt ≤ y136.toInt) := b186
              replace b187 : q_F (t14_0.toInt ≤ y136.toInt) := b187
              replace b188 : q_F (t0_1.toInt ≤ y137.toInt) := b188
              replace b189 : q_F (y137.toInt ≤ t0_1.toInt) := b189
              replace b191 : q_F (y145.toInt ≤ t3_1.toInt) := b191
              replace hT9 := (hu195 _ (by have z0 := yd4; simp only [List.mem_cons, List.not_mem_nil, or_false, not_or]; omega)).trans hT9
              replace hT10 := (hu195 _ (by have z0 := yd4; simp only [List.mem_cons, List.not_mem_nil, or_false, not_or]; omega)).trans hT10
              replace hT14 := (hu195 _ (by have z0 := yd4; simp only [List.mem_cons, List.not_mem_nil, or_false, not_or]; omega)).trans hT14
              replace hO106 := (hu195 _ (by have z0 := yd4; simp only [List.mem_cons, List.not_mem_nil, or_false, not_or]; omega)).trans hO106
              replace hF := q_uc hF hu195 (by simp)
              have hR215 := (show F_NH_decimal_bt_c133 x2 x3 x4 x5 t0_0 t0_1 t1_0 t1_1 t2_0 t3_0 t3_1 t4_0 t5_0 t5_1 t6_0 t7_0 t7_1 t8_0 t9_0 t9_1 t10_0 t11_0 t11_1 t12_0 t12_1 t13_0 t14_0 t14_1 t15_0 t15_1 t16_0 lx71 p196 = (F_NH_decimal_bt x2 x3 x4 x5 t0_0 t0_1 t1_0 t1_1 t2_0 t3_0 t3_1 t4_0 t5_0 t5_1 t6_0 t7_0 t7_1 t8_0 t9_0 t9_1 t10_0 t11_0 t11_1 t12_0 t12_1 t13_0 t14_0 t14_1 t15_0 t15_1 t16_0) from Eq.trans (by rw [e197, F_NH_decimal_bt_J36.eq_1, if_pos c103, if_pos c117, if_neg c119, if_pos c121, if_pos c129]) hR92)
              have hS216 := (show True ∧ S_NH_decimal_bt_c133 x2 x3 x4 x5 t0_0 t0_1 t1_0 t1_1 t2_0 t3_0 t3_1 t4_0 t5_0 t5_1 t6_0 t7_0 t7_1 t8_0 t9_0 t9_1 t10_0 t11_0 t11_1 t12_0 t12_1 t13_0 t14_0 t14_1 t15_0 t15_1 t16_0 lx71 p196 from (by rw [e197]; have h := hS93; rw [S_NH_decimal_bt_J36.eq_1] at h; rw [if_pos c103] at h; replace h := q_s2 h; replace h := q_s2 h; replace h := q_s2 h; replace h := q_s2 h; rw [if_pos c117] at h; rw [if_neg c119] at h; rw [if_pos c121] at h; rw [if_pos c129] at h; replace h := q_s2 h; with_reducible exact h))
              refine lv_aload_n hx hb d_1_11_136 rfl (lv_at hl 2 rfl) ?_
              refine lv_iload hx hb d_1_11_137 (lv_at hl 6 rfl) ?_
              have ob220 : True ∧ S_NH_keepDecimal x5 y136 y137 y139 y140 f141 t9_0 t9_1 t10_0 t14_0 t14_1 y159 y160 f161 := (by rw [e214, e213, e212, e202, e201, e200, e199, e198]; have h := hS216; rw [S_NH_decimal_bt_c133.eq_1] at h; with_reducible exact h.2.1)
              refine q_goxv V (q_runVX (As := [.int x5]) (rest := []) (d := 8) (mc := 1) (ms := 6) (ci := 0) C0 V rfl LV_NH_281 (X_NH_keepDecimal l D g q u133  x5 d4 hBd4 yd4 gd4x5 hlt hI y136 y137 hO135 y139 y140 hO138 f141 hA142 t9_0 t9_1 hT9 t10_0 hT10 t14_0 t14_1 hT14 y159 y160 hO158 f161 hA162 ob220 _) rfl rfl hO106 rfl hl.1 rfl (Nat.le_of_ble_eq_true rfl) ⟨by decide, by decide⟩ ⟨Nat.le_of_ble_eq_true rfl, Nat.le_of_ble_eq_true rfl⟩ d_1_11_139) (fun qx Ex ce u221 H locs hp222 V hce hcv hcl => ?_) (fun u221 H locs hp222 V => ?_)
              ·
                obtain ⟨cx237, hZ9⟩ := hp222
                obtain ⟨he238, hZ9⟩ := hZ9
                obtain ⟨hc239, hZ9⟩ := hZ9
                obtain ⟨hI, hZ9⟩ := hZ9
                obtain ⟨hu240, hZ9⟩ := hZ9
                obtain ⟨y224, hZ9⟩ := hZ9
                obtain ⟨y225, hZ9⟩ := hZ9
                obtain ⟨f226, hZ9⟩ := hZ9
                obtain ⟨y229, hZ9⟩ := hZ9
                obtain ⟨y230, hZ9⟩ := hZ9
                obtain ⟨y232, hZ9⟩ := hZ9
                obtain ⟨y233, hZ9⟩ := hZ9
                obtain ⟨f234, hZ9⟩ := hZ9
                obtain ⟨hO223, hZ9⟩ := hZ9
                obtain ⟨hA227, hZ9⟩ := hZ9
                obtain ⟨hO228, hZ9⟩ := hZ9
                obtain ⟨hO231, hZ9⟩ := hZ9
                obtain ⟨hA235, hE236⟩ := hZ9
                replace hO223 : u221[20]? = (some (q 20, .inr (2, [.ref (q 21), .int y224, .int y225])) : Option (Nat × va_E)) := hO223
                replace hA227 : u221[21]? = (some (q 21, .inl (g 0, (220 : Int32).toNatClampNeg, .inl f226)) : Option (Nat × va_E)) := hA227
                replace hO228 : u221[d4]? = (some (q d4, .inr (3, [.ref (q (d4 + 1)), .int y229, .int y230])) : Option (Nat × va_E)) := hO228
                replace hO231 : u221[d4 + 1]? = (some (q (d4 + 1), .inr (2, [.ref (q (d4 + 2)), .int y232, .int y233])) : Option (Nat × va_E)) := hO231
                replace hA235 : u221[d4 + 2]? = (some (q (d4 + 2), .inl (g 0, (108 : Int32).toNatClampNeg, .inl f234)) : Option (Nat × va_E)) := hA235
                obtain ⟨p241, e242⟩ : ∃ z, z = (F_NH_keepDecimal x5 y136 y137 y139 y140 f141 t9_0 t9_1 t10_0 t14_0 t14_1 y159 y160 f161) := ⟨_, rfl⟩
                have c243 : ¬ p241.1 = (0 : Int32) := fun z => hc239 (((congrArg (fun z => z.1) (hE236.trans e242.symm)) : cx237 = _).trans z)
                have e244 : y224 = p241.2.1 := congrArg (fun z => z.2.1) (hE236.trans e242.symm)
                have e245 : y225 = p241.2.2.1 := congrArg (fun z => z.2.2.1) (hE236.trans e242.symm)
                have e246 : f226 = p241.2.2.2.1 := congrArg (fun z => z.2.2.2.1) (hE236.trans e242.symm)
                have e247 : y229 = p241.2.2.2.2.1 := congrArg (fun z => z.2.2.2.2.1) (hE236.trans e242.symm)
                have e248 : y230 = p241.2.2.2.2.2.1 := congrArg (fun z => z.2.2.2.2.2.1) (hE236.trans e242.symm)
                have e249 : y232 = p241.2.2.2.2.2.2.1 := congrArg (fun z => z.2.2.2.2.2.2.1) (hE236.trans e242.symm)
                have e250 : y233 = p241.2.2.2.2.2.2.2.1 := congrArg (fun z => z.2.2.2.2.2.2.2.1) (hE236.trans e242.symm)
                have e251 : f234 = p241.2.2.2.2.2.2.2.2 := congrArg (fun z => z.2.2.2.2.2.2.2.2) (hE236.trans e242.symm)
                replace hO135 := (hu240 _ (by have z0 := yd4; simp only [List.mem_cons, List.not_mem_nil, or_false, not_or]; omega)).trans hO135
                replace hO138 := (hu240 _ (by have z0 := yd4; simp only [List.mem_cons, List.not_mem_nil, or_false, not_or]; omega)).trans hO138
                replace hA142 := (hu240 _ (by have z0 := yd4; simp only [List.mem_cons, List.not_mem_nil, or_false, not_or]; omega)).trans hA142
                replace hO143 := (hu240 _ (by have z0 := yd4; simp only [List.mem_cons, List.not_mem_nil, or_false, not_or]; omega)).trans hO143
                replace hA147 := (hu240 _ (by have z0 := yd4; simp only [List.mem_cons, List.not_mem_nil, or_false, not_or]; omega)).trans hA147
                replace hO148 := (hu240 _ (by have z0 := yd4; simp only [List.mem_cons, List.not_mem_nil, or_false, not_or]; omega)).trans hO148
                replace hA152 := (hu240 _ (by have z0 := yd4; simp only [List.mem_cons, List.not_mem_nil, or_false, not_or]; omega)).trans hA152
                replace hO153 := (hu240 _ (by have z0 := yd4; simp only [List.mem_cons, List.not_mem_nil, or_false, not_or]; omega)).trans hO153
                replace hA157 := (hu240 _ (by have z0 := yd4; simp only [List.mem_cons, List.not_mem_nil, or_false, not_or]; omega)).trans hA157
                replace hF := q_uc hF hu240 (by simp)
                have hR252 := (show F_NH_decimal_bt_c139 x2 x3 x4 x5 t0_0 t0_1 t1_0 t1_1 t2_0 t3_0 t3_1 t4_0 t5_0 t5_1 t6_0 t7_0 t7_1 t8_0 t9_0 t9_1 t10_0 t11_0 t11_1 t12_0 t12_1 t13_0 t14_0 t14_1 t15_0 t15_1 t16_0 lx71 p196 y136 y137 y139 y140 f141 y144 y145 f146 y149 y150 f151 y154 y155 f156 p241 = (F_NH_decimal_bt x2 x3 x4 x5 t0_0 t0_1 t1_0 t1_1 t2_0 t3_0 t3_1 t4_0 t5_0 t5_1 t6_0 t7_0 t7_1 t8_0 t9_0 t9_1 t10_0 t11_0 t11_1 t12_0 t12_1 t13_0 t14_0 t14_1 t15_0 t15_1 t16_0) from Eq.trans (by rw [e242, e214, e213, e212, e211, e210, e209, e208, e207, e206, e205, e204, e203, e202, e201, e200, e199, e198, F_NH_decimal_bt_c133.eq_1]) hR215)
                have hS253 := (show True ∧ S_NH_decimal_bt_c139 x2 x3 x4 x5 t0_0 t0_1 t1_0 t1_1 t2_0 t3_0 t3_1 t4_0 t5_0 t5_1 t6_0 t7_0 t7_1 t8_0 t9_0 t9_1 t10_0 t11_0 t11_1 t12_0 t12_1 t13_0 t14_0 t14_1 t15_0 t15_1 t16_0 lx71 p196 y136 y137 y139 y140 f141 y144 y145 f146 y149 y150 f151 y154 y155 f156 p241 from (by rw [e242, e214, e213, e212, e211, e210, e209, e208, e207, e206, e205, e204, e203, e202, e201, e200, e199, e198]; have h := hS216; rw [S_NH_decimal_bt_c133.eq_1] at h; replace h := q_s2 h; with_reducible exact h))
                exact q_outT hno C0 V (⟨p241.1, (he238.trans (congrArg qE ((congrArg (fun z => z.1) (hE236.trans e242.symm)) : cx237 = _))), c243, hI, hF, y136, y137, y139, y140, f141, y144, y145, f146, y149, y150, f151, y154, y155, f156, y224, y225, f226, y229, y230, y232, y233, f234, hO135, hO138, hA142, hO143, hA147, hO148, hA152, hO153, hA157, hO223, hA227, hO228, hO231, hA235, (show (p241.1, y136, y137, y139, y140, f141, y144, y145, f146, y149, y150, f151, y154, y155, f156, y224, y225, f226, y229, y230, y232, y233, f234) = (F_NH_decimal_bt x2 x3 x4 x5 t0_0 t0_1 t1_0 t1_1 t2_0 t3_0 t3_1 t4_0 t5_0 t5_1 t6_0 t7_0 t7_1 t8_0 t9_0 t9_1 t10_0 t11_0 t11_1 t12_0 t12_1 t13_0 t14_0 t14_1 t15_0 t15_1 t16_0) from Eq.trans (by rw [e251, e250, e249, e248, e247, e246, e245, e244, F_NH_decimal_bt_c139.eq_1, if_neg c243]) hR252)⟩) hce hcv hcl (Nat.le_of_ble_eq_true rfl) (Nat.le_of_ble_eq_true rfl)
              ·
                obtain ⟨hI, hZ9⟩ := hp222
                obtain ⟨hu295, hZ9⟩ := hZ9
                obtain ⟨y258, hZ9⟩ := hZ9
                obtain ⟨y259, hZ9⟩ := hZ9
                obtain ⟨f260, hZ9⟩ := hZ9
                obtain ⟨y263, hZ9⟩ := hZ9
                obtain ⟨y264, hZ9⟩ := hZ9
                obtain ⟨y266, hZ9⟩ := hZ9
                obtain ⟨y267, hZ9⟩ := hZ9
                obtain ⟨f268, hZ9⟩ := hZ9
                obtain ⟨hO257, hZ9⟩ := hZ9
                obtain ⟨hA261, hZ9⟩ := hZ9
                obtain ⟨hO262, hZ9⟩ := hZ9
                obtain ⟨hO265, hZ9⟩ := hZ9
                obtain ⟨hA269, hZ9⟩ := hZ9
                obtain ⟨b270, hZ9⟩ := hZ9
                obtain ⟨b271, hZ9⟩ := hZ9
                obtain ⟨b272, hZ9⟩ := hZ9
                obtain ⟨b273, hZ9⟩ := hZ9
                obtain ⟨b274, hZ9⟩ := hZ9
                obtain ⟨b275, hZ9⟩ := hZ9
                obtain ⟨b276, hZ9⟩ := hZ9
                obtain ⟨b277, hZ9⟩ := hZ9
                obtain ⟨b278, hZ9⟩ := hZ9
                obtain ⟨b279, hZ9⟩ := hZ9
                obtain ⟨b280, hZ9⟩ := hZ9
                obtain ⟨b281, hZ9⟩ := hZ9
                obtain ⟨b282, hZ9⟩ := hZ9
                obtain ⟨b283, hZ9⟩ := hZ9
                obtain ⟨b284, hZ9⟩ := hZ9
                obtain ⟨b285, hZ9⟩ := hZ9
                obtain ⟨b286, hZ9⟩ := hZ9
                obtain ⟨b287, hZ9⟩ := hZ9
                obtain ⟨b288, hZ9⟩ := hZ9
                obtain ⟨b289, hZ9⟩ := hZ9
                obtain ⟨b290, hZ9⟩ := hZ9
                obtain ⟨b291, hZ9⟩ := hZ9
                obtain ⟨b292, hZ9⟩ := hZ9
                obtain ⟨b293, hE294⟩ := hZ9
                replace hO257 : u221[20]? = (some (q 20, .inr (2, [.ref (q 21), .int y258, .int y259])) : Option (Nat × va_E)) := hO257
                replace hA261 : u221[21]? = (some (q 21, .inl (g 0, (220 : Int32).toNatClampNeg, .inl f260)) : Option (Nat × va_E)) := hA261
                replace hO262 : u221[d4]? = (some (q d4, .inr (3, [.ref (q (d4 + 1)), .int y263, .int y264])) : Option (Nat × va_E)) := hO262
                replace hO265 : u221[d4 + 1]? = (some (q (d4 + 1), .inr (2, [.ref (q (d4 + 2)), .int y266, .int y267])) : Option (Nat × va_E)) := hO265
                replace hA269 : u221[d4 + 2]? = (some (q (d4 + 2), .inl (g 0, (108 : Int32).toNatClampNeg, .inl f268)) : Option (Nat × va_E)) := hA269
                obtain ⟨p241, e242⟩ : ∃ z, z = (F_NH_keepDecimal x5 y136 y137 y139 y140 f141 t9_0 t9_1 t10_0 t14_0 t14_1 y159 y160 f161) := ⟨_, rfl⟩
                have c243 : p241.1 = (0 : Int32) := ((congrArg (fun z => z.1) (hE294.trans e242.symm)) : (0 : Int32) = _).symm
                have e297 : y258 = p241.2.1 := congrArg (fun z => z.2.1) (hE294.trans e242.symm)
                have e298 : y259 = p241.2.2.1 := congrArg (fun z => z.2.2.1) (hE294.trans e242.symm)
                have e299 : f260 = p241.2.2.2.1 := congrArg (fun z => z.2.2.2.1) (hE294.trans e242.symm)
                have e300 : y263 = p241.2.2.2.2.1 := congrArg (fun z => z.2.2.2.2.1) (hE294.trans e242.symm)
                have e301 : y264 = p241.2.2.2.2.2.1 := congrArg (fun z => z.2.2.2.2.2.1) (hE294.trans e242.symm)
                have e302 : y266 = p241.2.2.2.2.2.2.1 := congrArg (fun z => z.2.2.2.2.2.2.1) (hE294.trans e242.symm)
                have e303 : y267 = p241.2.2.2.2.2.2.2.1 := congrArg (fun z => z.2.2.2.2.2.2.2.1) (hE294.trans e242.symm)
                have e304 : f268 = p241.2.2.2.2.2.2.2.2 := congrArg (fun z => z.2.2.2.2.2.2.2.2) (hE294.trans e242.symm)
                replace b270 : q_F (0 ≤ y258.toInt) := b270
                replace b271 : q_F (y258.toInt ≤ 220) := b271
                replace b272 : q_F (0 ≤ y259.toInt) := b272
                replace b273 : q_F (y259.toInt ≤ 1) := b273
                replace b274 : q_F (0 ≤ y263.toInt + 10000) := b274
                replace b275 : q_F (y263.toInt ≤ 10000) := b275
                replace b276 : q_F (1 ≤ y264.toInt) := b276
                replace b277 : q_F (y264.toInt ≤ 1000) := b277
                replace b278 : q_F (0 ≤ y266.toInt) := b278
                replace b279 : q_F (y266.toInt ≤ 108) := b279
                replace b280 : q_F (0 ≤ y267.toInt) := b280
                replace b281 : q_F (y267.toInt ≤ 1) := b281
                replace b282 : q_F (x5.toInt ≤ y258.toInt + 9) := b282
                replace b283 : q_F (y258.toInt ≤ x5.toInt + 220) := b283
                replace b284 : q_F (x5.toInt ≤ y259.toInt + 9) := b284
                replace b285 : q_F (y259.toInt ≤ x5.toInt + 1) := b285
                replace b286 : q_F (x5.toInt ≤ y263.toInt + 10009) := b286
                replace b287 : q_F (y263.toInt ≤ x5.toInt + 10000) := b287
                replace b288 : q_F (x5.toInt ≤ y264.toInt + 8) := b288
                replace b289 : q_F (y264.toInt ≤ x5.toInt + 1000) := b289
                replace b290 : q_F (x5.toInt ≤ y266.toInt + 9) := b290
                replace b291 : q_F (y266.toInt ≤ x5.toInt + 108) := b291
                replace b292 : q_F (x5.toInt ≤ y267.toInt + 9) := b292
                replace b293 : q_F (y267.toInt ≤ x5.toInt + 1) := b293
                replace hO135 := (hu295 _ (by have z0 := yd4; simp only [List.mem_cons, List.not_mem_nil, or_false, not_or]; omega)).trans hO135
                replace hO138 := (hu295 _ (by have z0 := yd4; simp only [List.mem_cons, List.not_mem_nil, or_false, not_or]; omega)).trans hO138
                replace hA142 := (hu295 _ (by have z0 := yd4; simp only [List.mem_cons, List.not_mem_nil, or_false, not_or]; omega)).trans hA142
                replace hO143 := (hu295 _ (by have z0 := yd4; simp only [List.mem_cons, List.not_mem_nil, or_false, not_or]; omega)).trans hO143
                replace hA147 := (hu295 _ (by have z0 := yd4; simp only [List.mem_cons, List.not_mem_nil, or_false, not_or]; omega)).trans hA147
                replace hO148 := (hu295 _ (by have z0 := yd4; simp only [List.mem_cons, List.not_mem_nil, or_false, not_or]; omega)).trans hO148
                replace hA152 := (hu295 _ (by have z0 := yd4; simp only [List.mem_cons, List.not_mem_nil, or_false, not_or]; omega)).trans hA152
                replace hO153 := (hu295 _ (by have z0 := yd4; simp only [List.mem_cons, List.not_mem_nil, or_false, not_or]; omega)).trans hO153
                replace hA157 := (hu295 _ (by have z0 := yd4; simp only [List.mem_cons, List.not_mem_nil, or_false, not_or]; omega)).trans hA157
                replace hF := q_uc hF hu295 (by simp)
                have hR252 := (show F_NH_decimal_bt_c139 x2 x3 x4 x5 t0_0 t0_1 t1_0 t1_1 t2_0 t3_0 t3_1 t4_0 t5_0 t5_1 t6_0 t7_0 t7_1 t8_0 t9_0 t9_1 t10_0 t11_0 t11_1 t12_0 t12_1 t13_0 t14_0 t14_1 t15_0 t15_1 t16_0 lx71 p196 y136 y137 y139 y140 f141 y144 y145 f146 y149 y150 f151 y154 y155 f156 p241 = (F_NH_decimal_bt x2 x3 x4 x5 t0_0 t0_1 t1_0 t1_1 t2_0 t3_0 t3_1 t4_0 t5_0 t5_1 t6_0 t7_0 t7_1 t8_0 t9_0 t9_1 t10_0 t11_0 t11_1 t12_0 t12_1 t13_0 t14_0 t14_1 t15_0 t15_1 t16_0) from Eq.trans (by rw [e242, e214, e213, e212, e211, e210, e209, e208, e207, e206, e205, e204, e203, e202, e201, e200, e199, e198, F_NH_decimal_bt_c133.eq_1]) hR215)
                have hS253 := (show True ∧ S_NH_decimal_bt_c139 x2 x3 x4 x5 t0_0 t0_1 t1_0 t1_1 t2_0 t3_0 t3_1 t4_0 t5_0 t5_1 t6_0 t7_0 t7_1 t8_0 t9_0 t9_1 t10_0 t11_0 t11_1 t12_0 t12_1 t13_0 t14_0 t14_1 t15_0 t15_1 t16_0 lx71 p196 y136 y137 y139 y140 f141 y144 y145 f146 y149 y150 f151 y154 y155 f156 p241 from (by rw [e242, e214, e213, e212, e211, e210, e209, e208, e207, e206, e205, e204, e203, e202, e201, e200, e199, e198]; have h := hS216; rw [S_NH_decimal_bt_c133.eq_1] at h; replace h := q_s2 h; with_reducible exact h))
                exact q_retX (q_retv C0 V (⟨hI, hF, y136, y137, y139, y140, f141, y144, y145, f146, y149, y150, f151, y154, y155, f156, y258, y259, f260, y263, y264, y266, y267, f268, hO135, hO138, hA142, hO143, hA147, hO148, hA152, hO153, hA157, hO257, hA261, hO262, hO265, hA269, (show 0 ≤ y136.toInt + 20000 from (by first | with_reducible exact q_fe b163 | (have t1 : 0 ≤ y136.toInt + 10000 := b163; omega))), (show y136.toInt ≤ 20000 from (by first | with_reducible exact q_fe b164 | (have t1 : y136.toInt ≤ 10000 := b164; omega))), (show 0 ≤ y137.toInt from (by first | with_reducible exact q_fe b165 | (have t1 : 0 ≤ y137.toInt := b165; omega))), (show y137.toInt ≤ 1 from (by first | with_reducible exact q_fe b166 | (have t1 : y137.toInt ≤ 1 := b166; omega))), (show 0 ≤ y139.toInt from (by first | with_reducible exact q_fe b167 | (have t1 : 0 ≤ y139.toInt := b167; omega))), (show y139.toInt ≤ 220 from (by first | with_reducible exact q_fe b168 | (have t1 : y139.toInt ≤ 220 := b168; omega))), (show 0 ≤ y140.toInt from (by first | with_reducible exact q_fe b169 | (have t1 : 0 ≤ y140.toInt := b169; omega))), (show y140.toInt ≤ 1 from (by first | with_reducible exact q_fe b170 | (have t1 : y140.toInt ≤ 1 := b170; omega))), (show 0 ≤ y144.toInt from (by first | with_reducible exact q_fe b171 | (have t1 : 0 ≤ y144.toInt := b171; omega))), (show y144.toInt ≤ 220 from (by first | with_reducible exact q_fe b172 | (have t1 : y144.toInt ≤ 220 := b172; omega))), (show 0 ≤ y145.toInt from (by first | with_reducible exact q_fe b173 | (have t1 : 0 ≤ y145.toInt := b173; omega))), (show y145.toInt ≤ 1 from (by first | with_reducible exact q_fe b174 | (have t1 : y145.toInt ≤ 1 := b174; omega))), (show 0 ≤ y149.toInt from (by first | with_reducible exact q_fe b175 | (have t1 : 0 ≤ y149.toInt := b175; omega))), (show y149.toInt ≤ 220 from (by first | with_reducible exact q_fe b176 | (have t1 : y149.toInt ≤ 220 := b176; omega))), (show 0 ≤ y150.toInt from (by first | with_reducible exact q_fe b177 | (have t1 : 0 ≤ y150.toInt := b177; omega))), (show 0 ≤ y154.toInt from (by first | with_reducible exact q_fe b178 | (have t1 : 0 ≤ y154.toInt := b178; omega))), (show y154.toInt ≤ 220 from (by first | with_reducible exact q_fe b179 | (have t1 : y154.toInt ≤ 220 := b179; omega))), (show 0 ≤ y155.toInt from (by first | with_reducible exact q_fe b180 | (have t1 : 0 ≤ y155.toInt := b180; omega))), (show y155.toInt ≤ 1 from (by first | with_reducible exact q_fe b181 | (have t1 : y155.toInt ≤ 1 := b181; omega))), (show 0 ≤ y258.toInt from (by first | with_reducible exact q_fe b270 | (have t1 : 0 ≤ y258.toInt := b270; omega))), (show y258.toInt ≤ 220 from (by first | with_reducible exact q_fe b271 | (have t1 : y258.toInt ≤ 220 := b271; omega))), (show 0 ≤ y259.toInt from (by first | with_reducible exact q_fe b272 | (have t1 : 0 ≤ y259.toInt := b272; omega))), (show y259.toInt ≤ 1 from (by first | with_reducible exact q_fe b273 | (have t1 : y259.toInt ≤ 1 := b273; omega))), (show 0 ≤ y263.toInt + 10000 from (by first | with_reducible exact q_fe b274 | (have t1 : 0 ≤ y263.toInt + 10000 := b274; omega))), (show y263.toInt ≤ 10000 from (by first | with_reducible exact q_fe b275 | (have t1 : y263.toInt ≤ 10000 := b275; omega))), (show 1 ≤ y264.toInt from (by first | with_reducible exact q_fe b276 | (have t1 : 1 ≤ y264.toInt := b276; omega))), (show y264.toInt ≤ 1000 from (by first | with_reducible exact q_fe b277 | (have t1 : y264.toInt ≤ 1000 := b277; omega))), (show 0 ≤ y266.toInt from (by first | with_reducible exact q_fe b278 | (have t1 : 0 ≤ y266.toInt := b278; omega))), (show y266.toInt ≤ 108 from (by first | with_reducible exact q_fe b279 | (have t1 : y266.toInt ≤ 108 := b279; omega))), (show 0 ≤ y267.toInt from (by first | with_reducible exact q_fe b280 | (have t1 : 0 ≤ y267.toInt := b280; omega))), (show y267.toInt ≤ 1 from (by first | with_reducible exact q_fe b281 | (have t1 : y267.toInt ≤ 1 := b281; omega))), (show x3.toInt ≤ y136.toInt + 20009 from (by have t1 : x3.toInt ≤ 9 := ob109; have t2 : 0 ≤ y136.toInt + 10000 := b163; omega)), (show y136.toInt ≤ x3.toInt + 20000 from (by have t1 : 0 ≤ x3.toInt := ob108; have t2 : y136.toInt ≤ 10000 := b164; omega)), (show x4.toInt ≤ y136.toInt + 20009 from (by have t1 : x4.toInt ≤ 9 := ob114; have t2 : 0 ≤ y136.toInt + 10000 := b163; omega)), (show y136.toInt ≤ x4.toInt + 20000 from (by have t1 : 0 ≤ x4.toInt := ob113; have t2 : y136.toInt ≤ 10000 := b164; omega)), (show t11_0.toInt ≤ y136.toInt + 10000 from (by first | with_reducible exact q_fe b186 | (have t1 : t11_0.toInt ≤ y136.toInt := b186; omega))), (show y136.toInt ≤ t11_0.toInt + 20000 from (by have t1 : -10000 ≤ t11_0.toInt ∧ t11_0.toInt ≤ 10000 := btt11_0; have t2 : y136.toInt ≤ 10000 := b164; omega)), (show t14_0.toInt ≤ y136.toInt + 10000 from (by first | with_reducible exact q_fe b187 | (have t1 : t14_0.toInt ≤ y136.toInt := b187; omega))), (show y136.toInt ≤ t14_0.toInt + 20000 from (by have t1 : -10000 ≤ t14_0.toInt ∧ t14_0.toInt ≤ 10000 := btt14_0; have t2 : y136.toInt ≤ 10000 := b164; omega)), (show x3.toInt ≤ y137.toInt + 9 from (by have t1 : x3.toInt ≤ 9 := ob109; have t2 : 0 ≤ y137.toInt := b165; omega)), (show y137.toInt ≤ x3.toInt + 1 from (by have t1 : 0 ≤ x3.toInt := ob108; have t2 : y137.toInt ≤ 1 := b166; omega)), (show x4.toInt ≤ y137.toInt + 9 from (by have t1 : x4.toInt ≤ 9 := ob114; have t2 : 0 ≤ y137.toInt := b165; omega)), (show y137.toInt ≤ x4.toInt + 1 from (by have t1 : 0 ≤ x4.toInt := ob113; have t2 : y137.toInt ≤ 1 := b166; omega)), (show t0_1.toInt ≤ y137.toInt from (by first | with_reducible exact q_fe b188 | (have t1 : t0_1.toInt ≤ y137.toInt := b188; omega))), (show y137.toInt ≤ t0_1.toInt from (by first | with_reducible exact q_fe b189 | (have t1 : y137.toInt ≤ t0_1.toInt := b189; omega))), (show x3.toInt ≤ y139.toInt + 9 from (by have t1 : x3.toInt ≤ 9 := ob109; have t2 : 0 ≤ y139.toInt := b167; omega)), (show y139.toInt ≤ x3.toInt + 220 from (by have t1 : 0 ≤ x3.toInt := ob108; have t2 : y139.toInt ≤ 220 := b168; omega)), (show x4.toInt ≤ y139.toInt + 9 from (by have t1 : x4.toInt ≤ 9 := ob114; have t2 : 0 ≤ y139.toInt := b167; omega)), (show y139.toInt ≤ x4.toInt + 220 from (by have t1 : 0 ≤ x4.toInt := ob113; have t2 : y139.toInt ≤ 220 := b168; omega)), (show x3.toInt ≤ y140.toInt + 9 from (by have t1 : x3.toInt ≤ 9 := ob109; have t2 : 0 ≤ y140.toInt := b169; omega)), (show y140.toInt ≤ x3.toInt + 1 from (by have t1 : 0 ≤ x3.toInt := ob108; have t2 : y140.toInt ≤ 1 := b170; omega)), (show x4.toInt ≤ y140.toInt + 9 from (by have t1 : x4.toInt ≤ 9 := ob114; have t2 : 0 ≤ y140.toInt := b169; omega)), (show y140.toInt ≤ x4.toInt + 1 from (by have t1 : 0 ≤ x4.toInt := ob113; have t2 : y140.toInt ≤ 1 := b170; omega)), (show x3.toInt ≤ y144.toInt + 9 from (by have t1 : x3.toInt ≤ 9 := ob109; have t2 : 0 ≤ y144.toInt := b171; omega)), (show y144.toInt ≤ x3.toInt + 220 from (by have t1 : 0 ≤ x3.toInt := ob108; have t2 : y144.toInt ≤ 220 := b172; omega)), (show x4.toInt ≤ y144.toInt + 9 from (by have t1 : x4.toInt ≤ 9 := ob114; have t2 : 0 ≤ y144.toInt := b171; omega)), (show y144.toInt ≤ x4.toInt + 220 from (by have t1 : 0 ≤ x4.toInt := ob113; have t2 : y144.toInt ≤ 220 := b172; omega)), (show x3.toInt ≤ y145.toInt + 9 from (by have t1 : x3.toInt ≤ 9 := ob109; have t2 : 0 ≤ y145.toInt := b173; omega)), (show y145.toInt ≤ x3.toInt + 1 from (by have t1 : 0 ≤ x3.toInt := ob108; have t2 : y145.toInt ≤ 1 := b174; omega)), (show x4.toInt ≤ y145.toInt + 9 from (by have t1 : x4.toInt ≤ 9 := ob114; have t2 : 0 ≤ y145.toInt := b173; omega)), (show y145.toInt ≤ x4.toInt + 1 from (by have t1 : 0 ≤ x4.toInt := ob113; have t2 : y145.toInt ≤ 1 := b174; omega)), (show y145.toInt ≤ t3_1.toInt from (by first | with_reducible exact q_fe b191 | (have t1 : y145.toInt ≤ t3_1.toInt := b191; omega))), (show x3.toInt ≤ y149.toInt + 9 from (by have t1 : x3.toInt ≤ 9 := ob109; have t2 : 0 ≤ y149.toInt := b175; omega)), (show y149.toInt ≤ x3.toInt + 220 from (by have t1 : 0 ≤ x3.toInt := ob108; have t2 : y149.toInt ≤ 220 := b176; omega)), (show x4.toInt ≤ y149.toInt + 9 from (by have t1 : x4.toInt ≤ 9 := ob114; have t2 : 0 ≤ y149.toInt := b175; omega)), (show y149.toInt ≤ x4.toInt + 220 from (by have t1 : 0 ≤ x4.toInt := ob113; have t2 : y149.toInt ≤ 220 := b176; omega)), (show x3.toInt ≤ y150.toInt + 9 from (by have t1 : x3.toInt ≤ 9 := ob109; have t2 : 0 ≤ y150.toInt := b177; omega)), (show x4.toInt ≤ y150.toInt + 9 from (by have t1 : x4.toInt ≤ 9 := ob114; have t2 : 0 ≤ y150.toInt := b177; omega)), (show x3.toInt ≤ y154.toInt + 9 from (by have t1 : x3.toInt ≤ 9 := ob109; have t2 : 0 ≤ y154.toInt := b178; omega)), (show y154.toInt ≤ x3.toInt + 220 from (by have t1 : 0 ≤ x3.toInt := ob108; have t2 : y154.toInt ≤ 220 := b179; omega)), (show x4.toInt ≤ y154.toInt + 9 from (by have t1 : x4.toInt ≤ 9 := ob114; have t2 : 0 ≤ y154.toInt := b178; omega)), (show y154.toInt ≤ x4.toInt + 220 from (by have t1 : 0 ≤ x4.toInt := ob113; have t2 : y154.toInt ≤ 220 := b179; omega)), (show x3.toInt ≤ y155.toInt + 9 from (by have t1 : x3.toInt ≤ 9 := ob109; have t2 : 0 ≤ y155.toInt := b180; omega)), (show y155.toInt ≤ x3.toInt + 1 from (by have t1 : 0 ≤ x3.toInt := ob108; have t2 : y155.toInt ≤ 1 := b181; omega)), (show x4.toInt ≤ y155.toInt + 9 from (by have t1 : x4.toInt ≤ 9 := ob114; have t2 : 0 ≤ y155.toInt := b180; omega)), (show y155.toInt ≤ x4.toInt + 1 from (by have t1 : 0 ≤ x4.toInt := ob113; have t2 : y155.toInt ≤ 1 := b181; omega)), (show x3.toInt ≤ y258.toInt + 9 from (by have t1 : x3.toInt ≤ 9 := ob109; have t2 : 0 ≤ y258.toInt := b270; omega)), (show y258.toInt ≤ x3.toInt + 220 from (by have t1 : 0 ≤ x3.toInt := ob108; have t2 : y258.toInt ≤ 220 := b271; omega)), (show x4.toInt ≤ y258.toInt + 9 from (by have t1 : x4.toInt ≤ 9 := ob114; have t2 : 0 ≤ y258.toInt := b270; omega)), (show y258.toInt ≤ x4.toInt + 220 from (by have t1 : 0 ≤ x4.toInt := ob113; have t2 : y258.toInt ≤ 220 := b271; omega)), (show x5.toInt ≤ y258.toInt + 9 from (by first | with_reducible exact q_fe b282 | (have t1 : x5.toInt ≤ y258.toInt + 9 := b282; omega))), (show y258.toInt ≤ x5.toInt + 220 from (by first | with_reducible exact q_fe b283 | (have t1 : y258.toInt ≤ x5.toInt + 220 := b283; omega))), (show x3.toInt ≤ y259.toInt + 9 from (by have t1 : x3.toInt ≤ 9 := ob109; have t2 : 0 ≤ y259.toInt := b272; omega)), (show y259.toInt ≤ x3.toInt + 1 from (by have t1 : 0 ≤ x3.toInt := ob108; have t2 : y259.toInt ≤ 1 := b273; omega)), (show x4.toInt ≤ y259.toInt + 9 from (by have t1 : x4.toInt ≤ 9 := ob114; have t2 : 0 ≤ y259.toInt := b272; omega)), (show y259.toInt ≤ x4.toInt + 1 from (by have t1 : 0 ≤ x4.toInt := ob113; have t2 : y259.toInt ≤ 1 := b273; omega)), (show x5.toInt ≤ y259.toInt + 9 from (by first | with_reducible exact q_fe b284 | (have t1 : x5.toInt ≤ y259.toInt + 9 := b284; omega))), (show y259.toInt ≤ x5.toInt + 1 from (by first | with_reducible exact q_fe b285 | (have t1 : y259.toInt ≤ x5.toInt + 1 := b285; omega))), (show x3.toInt ≤ y263.toInt + 10009 from (by have t1 : x3.toInt ≤ 9 := ob109; have t2 : 0 ≤ y263.toInt + 10000 := b274; omega)), (show y263.toInt ≤ x3.toInt + 10000 from (by have t1 : 0 ≤ x3.toInt := ob108; have t2 : y263.toInt ≤ 10000 := b275; omega)), (show x4.toInt ≤ y263.toInt + 10009 from (by have t1 : x4.toInt ≤ 9 := ob114; have t2 : 0 ≤ y263.toInt + 10000 := b274; omega)), (show y263.toInt ≤ x4.toInt + 10000 from (by have t1 : 0 ≤ x4.toInt := ob113; have t2 : y263.toInt ≤ 10000 := b275; omega)), (show x5.toInt ≤ y263.toInt + 10009 from (by first | with_reducible exact q_fe b286 | (have t1 : x5.toInt ≤ y263.toInt + 10009 := b286; omega))), (show y263.toInt ≤ x5.toInt + 10000 from (by first | with_reducible exact q_fe b287 | (have t1 : y263.toInt ≤ x5.toInt + 10000 := b287; omega))), (show x3.toInt ≤ y264.toInt + 8 from (by have t1 : x3.toInt ≤ 9 := ob109; have t2 : 1 ≤ y264.toInt := b276; omega)), (show y264.toInt ≤ x3.toInt + 1000 from (by have t1 : 0 ≤ x3.toInt := ob108; have t2 : y264.toInt ≤ 1000 := b277; omega)), (show x4.toInt ≤ y264.toInt + 8 from (by have t1 : x4.toInt ≤ 9 := ob114; have t2 : 1 ≤ y264.toInt := b276; omega)), (show y264.toInt ≤ x4.toInt + 1000 from (by have t1 : 0 ≤ x4.toInt := ob113; have t2 : y264.toInt ≤ 1000 := b277; omega)), (show x5.toInt ≤ y264.toInt + 8 from (by first | with_reducible exact q_fe b288 | (have t1 : x5.toInt ≤ y264.toInt + 8 := b288; omega))), (show y264.toInt ≤ x5.toInt + 1000 from (by first | with_reducible exact q_fe b289 | (have t1 : y264.toInt ≤ x5.toInt + 1000 := b289; omega))), (show x3.toInt ≤ y266.toInt + 9 from (by have t1 : x3.toInt ≤ 9 := ob109; have t2 : 0 ≤ y266.toInt := b278; omega)), (show y266.toInt ≤ x3.toInt + 108 from (by have t1 : 0 ≤ x3.toInt := ob108; have t2 : y266.toInt ≤ 108 := b279; omega)), (show x4.toInt ≤ y266.toInt + 9 from (by have t1 : x4.toInt ≤ 9 := ob114; have t2 : 0 ≤ y266.toInt := b278; omega)), (show y266.toInt ≤ x4.toInt + 108 from (by have t1 : 0 ≤ x4.toInt := ob113; have t2 : y266.toInt ≤ 108 := b279; omega)), (show x5.toInt ≤ y266.toInt + 9 from (by first | with_reducible exact q_fe b290 | (have t1 : x5.toInt ≤ y266.toInt + 9 := b290; omega))), (show y266.toInt ≤ x5.toInt + 108 from (by first | with_reducible exact q_fe b291 | (have t1 : y266.toInt ≤ x5.toInt + 108 := b291; omega))), (show x3.toInt ≤ y267.toInt + 9 from (by have t1 : x3.toInt ≤ 9 := ob109; have t2 : 0 ≤ y267.toInt := b280; omega)), (show y267.toInt ≤ x3.toInt + 1 from (by have t1 : 0 ≤ x3.toInt := ob108; have t2 : y267.toInt ≤ 1 := b281; omega)), (show x4.toInt ≤ y267.toInt + 9 from (by have t1 : x4.toInt ≤ 9 := ob114; have t2 : 0 ≤ y267.toInt := b280; omega)), (show y267.toInt ≤ x4.toInt + 1 from (by have t1 : 0 ≤ x4.toInt := ob113; have t2 : y267.toInt ≤ 1 := b281; omega)), (show x5.toInt ≤ y267.toInt + 9 from (by first | with_reducible exact q_fe b292 | (have t1 : x5.toInt ≤ y267.toInt + 9 := b292; omega))), (show y267.toInt ≤ x5.toInt + 1 from (by first | with_reducible exact q_fe b293 | (have t1 : y267.toInt ≤ x5.toInt + 1 := b293; omega))), (show ((0 : Int32), y136, y137, y139, y140, f141, y144, y145, f146, y149, y150, f151, y154, y155, f156, y258, y259, f260, y263, y264, y266, y267, f268) = (F_NH_decimal_bt x2 x3 x4 x5 t0_0 t0_1 t1_0 t1_1 t2_0 t3_0 t3_1 t4_0 t5_0 t5_1 t6_0 t7_0 t7_1 t8_0 t9_0 t9_1 t10_0 t11_0 t11_1 t12_0 t12_1 t13_0 t14_0 t14_1 t15_0 t15_1 t16_0) from Eq.trans (by rw [e304, e303, e302, e301, e300, e299, e298, e297, F_NH_decimal_bt_c139.eq_1, if_pos c243]) hR252)⟩) d_1_11_142)
          ·
            refine lv_iconst (v := 1) hx hb d_1_11_117 (by decide) ?_
            refine lv_goto (tgt := 122) hx hb d_1_11_118 (by decide) ?_
            refine q_goxv V (q_runSX (As := [.int 1]) (rest := []) (d := 7) (mc := 1) (ms := 6) C0 V rfl LS_NH_138 (X_NH_canHave l D g q ws  1 hlt hI  ⟨(by have y0 : (1 : Int32).toInt = 1 := rfl; omega), (by have y0 : (1 : Int32).toInt = 1 := rfl; omega)⟩ _) rfl hl.1 rfl (Nat.le_of_ble_eq_true rfl) ⟨by decide, by decide⟩ ⟨Nat.le_of_ble_eq_true rfl, Nat.le_of_ble_eq_true rfl⟩ d_1_11_122) (fun qx Ex ce u306 H locs hp307 V hce hcv hcl => ?_) (fun u306 H locs hp307 V => ?_)
            ·
              obtain ⟨cx309, he310, hc311, rfl, hE308⟩ := hp307
              have c312 : ¬ (F_NH_canHave (1 : Int32)) = (0 : Int32) := fun z => hc311 (((hE308) : cx309 = _).trans z)
              exact q_outT hno C0 V (⟨(F_NH_canHave (1 : Int32)), (he310.trans (congrArg qE ((hE308) : cx309 = _))), c312, hI, hF, t0_0, t0_1, t1_0, t1_1, t2_0, t3_0, t3_1, t4_0, t5_0, t5_1, t6_0, t7_0, t7_1, t8_0, t9_0, t9_1, t10_0, t14_0, t14_1, t15_0, t15_1, t16_0, hT0, hT1, hT2, hT3, hT4, hT5, hT6, hT7, hT8, hT9, hT10, hT14, hT15, hT16, (show ((F_NH_canHave (1 : Int32)), t0_0, t0_1, t1_0, t1_1, t2_0, t3_0, t3_1, t4_0, t5_0, t5_1, t6_0, t7_0, t7_1, t8_0, t9_0, t9_1, t10_0, t14_0, t14_1, t15_0, t15_1, t16_0) = (F_NH_decimal_bt x2 x3 x4 x5 t0_0 t0_1 t1_0 t1_1 t2_0 t3_0 t3_1 t4_0 t5_0 t5_1 t6_0 t7_0 t7_1 t8_0 t9_0 t9_1 t10_0 t11_0 t11_1 t12_0 t12_1 t13_0 t14_0 t14_1 t15_0 t15_1 t16_0) from Eq.trans (by rw [F_NH_decimal_bt_J36.eq_1, if_pos c103, if_pos c117, if_neg c119, if_neg c121, if_neg c312]) hR92)⟩) hce hcv hcl (Nat.le_of_ble_eq_true rfl) (Nat.le_of_ble_eq_true rfl)
            ·
              obtain ⟨rfl, hE313⟩ := hp307
              have c312 : (F_NH_canHave (1 : Int32)) = (0 : Int32) := ((hE313) : (0 : Int32) = _).symm
              refine lv_aload_n hx hb d_1_11_125 rfl (lv_at hl 2 rfl) ?_
              refine q_get (ci := 0) (j := 7) (v := .ref (q 30)) C0 V i_NH rfl rfl hO106 (by decide) w_431 rfl d_1_11_126 ?_
              refine lv_aload hx hb d_1_11_129 (lv_at hl 1 rfl) ?_
              refine lv_aload hx hb d_1_11_131 (lv_at hl 0 rfl) ?_
              have ob315 : True ∧ S_DW_rest (108 : Int32) (108 : Int32) t0_0 t0_1 t1_0 t1_1 t2_0 t3_0 t3_1 t4_0 t5_0 t5_1 t6_0 t7_0 t7_1 t8_0 t11_0 t11_1 t12_0 t12_1 t13_0 t14_0 t14_1 t15_0 t15_1 t16_0 := (by have h := hS93; rw [S_NH_decimal_bt_J36.eq_1] at h; rw [if_pos c103] at h; replace h := q_s2 h; replace h := q_s2 h; replace h := q_s2 h; replace h := q_s2 h; rw [if_pos c117] at h; rw [if_neg c119] at h; rw [if_neg c121] at h; rw [if_pos c312] at h; with_reducible exact h.2.1)
              refine q_gov V (q_runV (As := [.ref (q d3), .ref (q d4)]) (rest := []) (d := 6) (mc := 0) (ms := 0) (ci := 5) C0 V rfl LV_NH_278 (X_DW_rest l D g q ws d3 108 hBd3 (Or.inr yd3) d4 108 hBd4 (Or.inr yd4)  (by have z0 := yd3; omega) (by have z0 := yd3; omega) (by have z0 := yd3; omega) (by have z0 := yd3; omega) (by have z0 := yd3; omega) (by have z0 := yd3; omega) (by have z0 := yd3; omega) (by have z0 := yd3; omega) (by have z0 := yd3; omega) (by have z0 := yd3; omega) (by have z0 := yd3; omega) (by have z0 := yd3; omega) (by have z0 := yd3; omega) (by have z0 := yd3; omega) (by have z0 := yd3; omega) (by have z0 := yd3; omega) (by have z0 := yd4; omega) (by have z0 := yd4; omega) (by have z0 := yd4; omega) (by have z0 := yd4; omega) (by have z0 := yd4; omega) (by have z0 := yd4; omega) (by have z0 := yd4; omega) (by have z0 := yd4; omega) (by have z0 := yd4; omega) (by have z0 := yd4; omega) (by have z0 := yd4; omega) (by have z0 := yd4; omega) (by have z0 := yd4; omega) (by have z0 := yd4; omega) (by have z0 := yd4; omega) (by have z0 := yd4; omega) (by have z := ne_d3_d4; omega) (by have z := ne_d3_d4p1; omega) (by have z := ne_d3_d4p2; omega) (by have z := ne_d4_d3p1; omega) (by have z := ne_d4_d3p2; omega) hI t0_0 t0_1 hT0 t1_0 t1_1 hT1 t2_0 hT2 t3_0 t3_1 hT3 t4_0 hT4 t5_0 t5_1 hT5 t6_0 hT6 t7_0 t7_1 hT7 t8_0 hT8 t11_0 t11_1 hT11 t12_0 t12_1 hT12 t13_0 hT13 t14_0 t14_1 hT14 t15_0 t15_1 hT15 t16_0 hT16 ob315 _) rfl rfl hT0 rfl hl.1 rfl (Nat.le_of_ble_eq_true rfl) ⟨by decide, by decide⟩ ⟨Nat.le_of_ble_eq_true rfl, Nat.le_of_ble_eq_true rfl⟩ d_1_11_133) (fun u316 H locs hp317 V => ?_)
              obtain ⟨hI, hZ9⟩ := hp317
              obtain ⟨hu378, hZ9⟩ := hZ9
              obtain ⟨y319, hZ9⟩ := hZ9
              obtain ⟨y320, hZ9⟩ := hZ9
              obtain ⟨y322, hZ9⟩ := hZ9
              obtain ⟨y323, hZ9⟩ := hZ9
              obtain ⟨f324, hZ9⟩ := hZ9
              obtain ⟨y327, hZ9⟩ := hZ9
              obtain ⟨y328, hZ9⟩ := hZ9
              obtain ⟨f329, hZ9⟩ := hZ9
              obtain ⟨y332, hZ9⟩ := hZ9
              obtain ⟨y333, hZ9⟩ := hZ9
              obtain ⟨f334, hZ9⟩ := hZ9
              obtain ⟨y337, hZ9⟩ := hZ9
              obtain ⟨y338, hZ9⟩ := hZ9
              obtain ⟨f339, hZ9⟩ := hZ9
              obtain ⟨y342, hZ9⟩ := hZ9
              obtain ⟨y343, hZ9⟩ := hZ9
              obtain ⟨f344, hZ9⟩ := hZ9
              obtain ⟨hO318, hZ9⟩ := hZ9
              obtain ⟨hO321, hZ9⟩ := hZ9
              obtain ⟨hA325, hZ9⟩ := hZ9
              obtain ⟨hO326, hZ9⟩ := hZ9
              obtain ⟨hA330, hZ9⟩ := hZ9
              obtain ⟨hO331, hZ9⟩ := hZ9
              obtain ⟨hA335, hZ9⟩ := hZ9
              obtain ⟨hO336, hZ9⟩ := hZ9
              obtain ⟨hA340, hZ9⟩ := hZ9
              obtain ⟨hO341, hZ9⟩ := hZ9
              obtain ⟨hA345, hZ9⟩ := hZ9
              obtain ⟨b346, hZ9⟩ := hZ9
              obtain ⟨b347, hZ9⟩ := hZ9
              obtain ⟨b348, hZ9⟩ := hZ9
              obtain ⟨b349, hZ9⟩ := hZ9
              obtain ⟨b350, hZ9⟩ := hZ9
              obtain ⟨b351, hZ9⟩ := hZ9
              obtain ⟨b352, hZ9⟩ := hZ9
              obtain ⟨b353, hZ9⟩ := hZ9
              obtain ⟨b354, hZ9⟩ := hZ9
              obtain ⟨b355, hZ9⟩ := hZ9
              obtain ⟨b356, hZ9⟩ := hZ9
              obtain ⟨b357, hZ9⟩ := hZ9
              obtain ⟨b358, hZ9⟩ := hZ9
              obtain ⟨b359, hZ9⟩ := hZ9
              obtain ⟨b360, hZ9⟩ := hZ9
              obtain ⟨b361, hZ9⟩ := hZ9
              obtain ⟨b362, hZ9⟩ := hZ9
              obtain ⟨b363, hZ9⟩ := hZ9
              obtain ⟨b364, hZ9⟩ := hZ9
              replace hZ9 := hZ9.2.2.2.2
              obtain ⟨b369, hZ9⟩ := hZ9
              obtain ⟨b370, hZ9⟩ := hZ9
              obtain ⟨b371, hZ9⟩ := hZ9
              obtain ⟨b372, hZ9⟩ := hZ9
              replace hZ9 := hZ9.2
              obtain ⟨b374, hZ9⟩ := hZ9
              replace hZ9 := hZ9.2
              obtain ⟨-, hE377⟩ := hZ9
              replace hO318 : u316[30]? = (some (q 30, .inr (5, [.ref (q 31), .long y319, .ref (q 9), .int y320])) : Option (Nat × va_E)) := hO318
              replace hO321 : u316[10]? = (some (q 10, .inr (2, [.ref (q 11), .int y322, .int y323])) : Option (Nat × va_E)) := hO321
              replace hA325 : u316[11]? = (some (q 11, .inl (g 0, (220 : Int32).toNatClampNeg, .inl f324)) : Option (Nat × va_E)) := hA325
              replace hO326 : u316[12]? = (some (q 12, .inr (2, [.ref (q 13), .int y327, .int y328])) : Option (Nat × va_E)) := hO326
              replace hA330 : u316[13]? = (some (q 13, .inl (g 0, (220 : Int32).toNatClampNeg, .inl f329)) : Option (Nat × va_E)) := hA330
              replace hO331 : u316[22]? = (some (q 22, .inr (2, [.ref (q 23), .int y332, .int y333])) : Option (Nat × va_E)) := hO331
              replace hA335 : u316[23]? = (some (q 23, .inl (g 0, (220 : Int32).toNatClampNeg, .inl f334)) : Option (Nat × va_E)) := hA335
              replace hO336 : u316[24]? = (some (q 24, .inr (2, [.ref (q 25), .int y337, .int y338])) : Option (Nat × va_E)) := hO336
              replace hA340 : u316[25]? = (some (q 25, .inl (g 0, (220 : Int32).toNatClampNeg, .inl f339)) : Option (Nat × va_E)) := hA340
              replace hO341 : u316[d4 + 1]? = (some (q (d4 + 1), .inr (2, [.ref (q (d4 + 2)), .int y342, .int y343])) : Option (Nat × va_E)) := hO341
              replace hA345 : u316[d4 + 2]? = (some (q (d4 + 2), .inl (g 0, (108 : Int32).toNatClampNeg, .inl f344)) : Option (Nat × va_E)) := hA345
              obtain ⟨p379, e380⟩ : ∃ z, z = (F_DW_rest (108 : Int32) (108 : Int32) t0_0 t0_1 t1_0 t1_1 t2_0 t3_0 t3_1 t4_0 t5_0 t5_1 t6_0 t7_0 t7_1 t8_0 t11_0 t11_1 t12_0 t12_1 t13_0 t14_0 t14_1 t15_0 t15_1 t16_0) := ⟨_, rfl⟩
              have e381 : y319 = p379.1 := congrArg (fun z => z.1) (hE377.trans e380.symm)
              have e382 : y320 = p379.2.1 := congrArg (fun z => z.2.1) (hE377.trans e380.symm)
              have e383 : y322 = p379.2.2.1 := congrArg (fun z => z.2.2.1) (hE377.trans e380.symm)
              have e384 : y323 = p379.2.2.2.1 := congrArg (fun z => z.2.2.2.1) (hE377.trans e380.symm)
              have e385 : f324 = p379.2.2.2.2.1 := congrArg (fun z => z.2.2.2.2.1) (hE377.trans e380.symm)
              have e386 : y327 = p379.2.2.2.2.2.1 := congrArg (fun z => z.2.2.2.2.2.1) (hE377.trans e380.symm)
              have e387 : y328 = p379.2.2.2.2.2.2.1 := congrArg (fun z => z.2.2.2.2.2.2.1) (hE377.trans e380.symm)
              have e388 : f329 = p379.2.2.2.2.2.2.2.1 := congrArg (fun z => z.2.2.2.2.2.2.2.1) (hE377.trans e380.symm)
              have e389 : y332 = p379.2.2.2.2.2.2.2.2.1 := congrArg (fun z => z.2.2.2.2.2.2.2.2.1) (hE377.trans e380.symm)
              have e390 : y333 = p379.2.2.2.2.2.2.2.2.2.1 := congrArg (fun z => z.2.2.2.2.2.2.2.2.2.1) (hE377.trans e380.symm)
              have e391 : f334 = p379.2.2.2.2.2.2.2.2.2.2.1 := congrArg (fun z => z.2.2.2.2.2.2.2.2.2.2.1) (hE377.trans e380.symm)
              have e392 : y337 = p379.2.2.2.2.2.2.2.2.2.2.2.1 := congrArg (fun z => z.2.2.2.2.2.2.2.2.2.2.2.1) (hE377.trans e380.symm)
              have e393 : y338 = p379.2.2.2.2.2.2.2.2.2.2.2.2.1 := congrArg (fun z => z.2.2.2.2.2.2.2.2.2.2.2.2.1) (hE377.trans e380.symm)
              have e394 : f339 = p379.2.2.2.2.2.2.2.2.2.2.2.2.2.1 := congrArg (fun z => z.2.2.2.2.2.2.2.2.2.2.2.2.2.1) (hE377.trans e380.symm)
              have e395 : y342 = p379.2.2.2.2.2.2.2.2.2.2.2.2.2.2.1 := congrArg (fun z => z.2.2.2.2.2.2.2.2.2.2.2.2.2.2.1) (hE377.trans e380.symm)
              have e396 : y343 = p379.2.2.2.2.2.2.2.2.2.2.2.2.2.2.2.1 := congrArg (fun z => z.2.2.2.2.2.2.2.2.2.2.2.2.2.2.2.1) (hE377.trans e380.symm)
              have e397 : f344 = p379.2.2.2.2.2.2.2.2.2.2.2.2.2.2.2.2 := congrArg (fun z => z.2.2.2.2.2.2.2.2.2.2.2.2.2.2.2.2) (hE377.trans e380.symm)
              replace b346 : q_F (0 ≤ y319.toInt + 10000) := b346
              replace b347 : q_F (y319.toInt ≤ 10000) := b347
              replace b348 : q_F (0 ≤ y320.toInt) := b348
              replace b349 : q_F (y320.toInt ≤ 1) := b349
              replace b350 : q_F (0 ≤ y322.toInt) := b350
              replace b351 : q_F (y322.toInt ≤ 220) := b351
              replace b352 : q_F (0 ≤ y323.toInt) := b352
              replace b353 : q_F (y323.toInt ≤ 1) := b353
              replace b354 : q_F (0 ≤ y327.toInt) := b354
              replace b355 : q_F (y327.toInt ≤ 220) := b355
              replace b356 : q_F (0 ≤ y328.toInt) := b356
              replace b357 : q_F (y328.toInt ≤ 1) := b357
              replace b358 : q_F (0 ≤ y332.toInt) := b358
              replace b359 : q_F (y332.toInt ≤ 220) := b359
              replace b360 : q_F (0 ≤ y333.toInt) := b360
              replace b361 : q_F (0 ≤ y337.toInt) := b361
              replace b362 : q_F (y337.toInt ≤ 220) := b362
              replace b363 : q_F (0 ≤ y338.toInt) := b363
              replace b364 : q_F (y338.toInt ≤ 1) := b364
              replace b369 : q_F (t11_0.toInt ≤ y319.toInt) := b369
              replace b370 : q_F (t14_0.toInt ≤ y319.toInt) := b370
              replace b371 : q_F (t0_1.toInt ≤ y320.toInt) := b371
              replace b372 : q_F (y320.toInt ≤ t0_1.toInt) := b372
              replace b374 : q_F (y328.toInt ≤ t3_1.toInt) := b374
              replace hT9 := (hu378 _ (by have z0 := yd4; simp only [List.mem_cons, List.not_mem_nil, or_false, not_or]; omega)).trans hT9
              replace hT10 := (hu378 _ (by have z0 := yd4; simp only [List.mem_cons, List.not_mem_nil, or_false, not_or]; omega)).trans hT10
              replace hT14 := (hu378 _ (by have z0 := yd4; simp only [List.mem_cons, List.not_mem_nil, or_false, not_or]; omega)).trans hT14
              replace hO106 := (hu378 _ (by have z0 := yd4; simp only [List.mem_cons, List.not_mem_nil, or_false, not_or]; omega)).trans hO106
              replace hF := q_uc hF hu378 (by simp)
              have hR398 := (show F_NH_decimal_bt_c133_4 x2 x3 x4 x5 t0_0 t0_1 t1_0 t1_1 t2_0 t3_0 t3_1 t4_0 t5_0 t5_1 t6_0 t7_0 t7_1 t8_0 t9_0 t9_1 t10_0 t11_0 t11_1 t12_0 t12_1 t13_0 t14_0 t14_1 t15_0 t15_1 t16_0 lx71 p379 = (F_NH_decimal_bt x2 x3 x4 x5 t0_0 t0_1 t1_0 t1_1 t2_0 t3_0 t3_1 t4_0 t5_0 t5_1 t6_0 t7_0 t7_1 t8_0 t9_0 t9_1 t10_0 t11_0 t11_1 t12_0 t12_1 t13_0 t14_0 t14_1 t15_0 t15_1 t16_0) from Eq.trans (by rw [e380, F_NH_decimal_bt_J36.eq_1, if_pos c103, if_pos c117, if_neg c119, if_neg c121, if_pos c312]) hR92)
              have hS399 := (show True ∧ S_NH_decimal_bt_c133_4 x2 x3 x4 x5 t0_0 t0_1 t1_0 t1_1 t2_0 t3_0 t3_1 t4_0 t5_0 t5_1 t6_0 t7_0 t7_1 t8_0 t9_0 t9_1 t10_0 t11_0 t11_1 t12_0 t12_1 t13_0 t14_0 t14_1 t15_0 t15_1 t16_0 lx71 p379 from (by rw [e380]; have h := hS93; rw [S_NH_decimal_bt_J36.eq_1] at h; rw [if_pos c103] at h; replace h := q_s2 h; replace h := q_s2 h; replace h := q_s2 h; replace h := q_s2 h; rw [if_pos c117] at h; rw [if_neg c119] at h; rw [if_neg c121] at h; rw [if_pos c312] at h; replace h := q_s2 h; with_reducible exact h))
              refine lv_aload_n hx hb d_1_11_136 rfl (lv_at hl 2 rfl) ?_
              refine lv_iload hx hb d_1_11_137 (lv_at hl 6 rfl) ?_
              have ob403 : True ∧ S_NH_keepDecimal x5 y319 y320 y322 y323 f324 t9_0 t9_1 t10_0 t14_0 t14_1 y342 y343 f344 := (by rw [e397, e396, e395, e385, e384, e383, e382, e381]; have h := hS399; rw [S_NH_decimal_bt_c133_4.eq_1] at h; with_reducible exact h.2.1)
              refine q_goxv V (q_runVX (As := [.int x5]) (rest := []) (d := 8) (mc := 1) (ms := 6) (ci := 0) C0 V rfl LV_NH_281 (X_NH_keepDecimal l D g q u316  x5 d4 hBd4 yd4 gd4x5 hlt hI y319 y320 hO318 y322 y323 hO321 f324 hA325 t9_0 t9_1 hT9 t10_0 hT10 t14_0 t14_1 hT14 y342 y343 hO341 f344 hA345 ob403 _) rfl rfl hO106 rfl hl.1 rfl (Nat.le_of_ble_eq_true rfl) ⟨by decide, by decide⟩ ⟨Nat.le_of_ble_eq_true rfl, Nat.le_of_ble_eq_true rfl⟩ d_1_11_139) (fun qx Ex ce u404 H locs hp405 V hce hcv hcl => ?_) (fun u404 H locs hp405 V => ?_)
              ·
                obtain ⟨cx420, hZ9⟩ := hp405
                obtain ⟨he421, hZ9⟩ := hZ9
                obtain ⟨hc422, hZ9⟩ := hZ9
                obtain ⟨hI, hZ9⟩ := hZ9
                obtain ⟨hu423, hZ9⟩ := hZ9
                obtain ⟨y407, hZ9⟩ := hZ9
                obtain ⟨y408, hZ9⟩ := hZ9
                obtain ⟨f409, hZ9⟩ := hZ9
                obtain ⟨y412, hZ9⟩ := hZ9
                obtain ⟨y413, hZ9⟩ := hZ9
                obtain ⟨y415, hZ9⟩ := hZ9
                obtain ⟨y416, hZ9⟩ := hZ9
                obtain ⟨f417, hZ9⟩ := hZ9
                obtain ⟨hO406, hZ9⟩ := hZ9
                obtain ⟨hA410, hZ9⟩ := hZ9
                obtain ⟨hO411, hZ9⟩ := hZ9
                obtain ⟨hO414, hZ9⟩ := hZ9
                obtain ⟨hA418, hE419⟩ := hZ9
                replace hO406 : u404[20]? = (some (q 20, .inr (2, [.ref (q 21), .int y407, .int y408])) : Option (Nat × va_E)) := hO406
                replace hA410 : u404[21]? = (some (q 21, .inl (g 0, (220 : Int32).toNatClampNeg, .inl f409)) : Option (Nat × va_E)) := hA410
                replace hO411 : u404[d4]? = (some (q d4, .inr (3, [.ref (q (d4 + 1)), .int y412, .int y413])) : Option (Nat × va_E)) := hO411
                replace hO414 : u404[d4 + 1]? = (some (q (d4 + 1), .inr (2, [.ref (q (d4 + 2)), .int y415, .int y416])) : Option (Nat × va_E)) := hO414
                replace hA418 : u404[d4 + 2]? = (some (q (d4 + 2), .inl (g 0, (108 : Int32).toNatClampNeg, .inl f417)) : Option (Nat × va_E)) := hA418
                obtain ⟨p424, e425⟩ : ∃ z, z = (F_NH_keepDecimal x5 y319 y320 y322 y323 f324 t9_0 t9_1 t10_0 t14_0 t14_1 y342 y343 f344) := ⟨_, rfl⟩
                have c426 : ¬ p424.1 = (0 : Int32) := fun z => hc422 (((congrArg (fun z => z.1) (hE419.trans e425.symm)) : cx420 = _).trans z)
                have e427 : y407 = p424.2.1 := congrArg (fun z => z.2.1) (hE419.trans e425.symm)
                have e428 : y408 = p424.2.2.1 := congrArg (fun z => z.2.2.1) (hE419.trans e425.symm)
                have e429 : f409 = p424.2.2.2.1 := congrArg (fun z => z.2.2.2.1) (hE419.trans e425.symm)
                have e430 : y412 = p424.2.2.2.2.1 := congrArg (fun z => z.2.2.2.2.1) (hE419.trans e425.symm)
                have e431 : y413 = p424.2.2.2.2.2.1 := congrArg (fun z => z.2.2.2.2.2.1) (hE419.trans e425.symm)
                have e432 : y415 = p424.2.2.2.2.2.2.1 := congrArg (fun z => z.2.2.2.2.2.2.1) (hE419.trans e425.symm)
                have e433 : y416 = p424.2.2.2.2.2.2.2.1 := congrArg (fun z => z.2.2.2.2.2.2.2.1) (hE419.trans e425.symm)
                have e434 : f417 = p424.2.2.2.2.2.2.2.2 := congrArg (fun z => z.2.2.2.2.2.2.2.2) (hE419.trans e425.symm)
                replace hO318 := (hu423 _ (by have z0 := yd4; simp only [List.mem_cons, List.not_mem_nil, or_false, not_or]; omega)).trans hO318
                replace hO321 := (hu423 _ (by have z0 := yd4; simp only [List.mem_cons, List.not_mem_nil, or_false, not_or]; omega)).trans hO321
                replace hA325 := (hu423 _ (by have z0 := yd4; simp only [List.mem_cons, List.not_mem_nil, or_false, not_or]; omega)).trans hA325
                replace hO326 := (hu423 _ (by have z0 := yd4; simp only [List.mem_cons, List.not_mem_nil, or_false, not_or]; omega)).trans hO326
                replace hA330 := (hu423 _ (by have z0 := yd4; simp only [List.mem_cons, List.not_mem_nil, or_false, not_or]; omega)).trans hA330
                replace hO331 := (hu423 _ (by have z0 := yd4; simp only [List.mem_cons, List.not_mem_nil, or_false, not_or]; omega)).trans hO331
                replace hA335 := (hu423 _ (by have z0 := yd4; simp only [List.mem_cons, List.not_mem_nil, or_false, not_or]; omega)).trans hA335
                replace hO336 := (hu423 _ (by have z0 := yd4; simp only [List.mem_cons, List.not_mem_nil, or_false, not_or]; omega)).trans hO336
                replace hA340 := (hu423 _ (by have z0 := yd4; simp only [List.mem_cons, List.not_mem_nil, or_false, not_or]; omega)).trans hA340
                replace hF := q_uc hF hu423 (by simp)
                have hR435 := (show F_NH_decimal_bt_c139_5 x2 x3 x4 x5 t0_0 t0_1 t1_0 t1_1 t2_0 t3_0 t3_1 t4_0 t5_0 t5_1 t6_0 t7_0 t7_1 t8_0 t9_0 t9_1 t10_0 t11_0 t11_1 t12_0 t12_1 t13_0 t14_0 t14_1 t15_0 t15_1 t16_0 lx71 p379 y319 y320 y322 y323 f324 y327 y328 f329 y332 y333 f334 y337 y338 f339 p424 = (F_NH_decimal_bt x2 x3 x4 x5 t0_0 t0_1 t1_0 t1_1 t2_0 t3_0 t3_1 t4_0 t5_0 t5_1 t6_0 t7_0 t7_1 t8_0 t9_0 t9_1 t10_0 t11_0 t11_1 t12_0 t12_1 t13_0 t14_0 t14_1 t15_0 t15_1 t16_0) from Eq.trans (by rw [e425, e397, e396, e395, e394, e393, e392, e391, e390, e389, e388, e387, e386, e385, e384, e383, e382, e381, F_NH_decimal_bt_c133_4.eq_1]) hR398)
                have hS436 := (show True ∧ S_NH_decimal_bt_c139_5 x2 x3 x4 x5 t0_0 t0_1 t1_0 t1_1 t2_0 t3_0 t3_1 t4_0 t5_0 t5_1 t6_0 t7_0 t7_1 t8_0 t9_0 t9_1 t10_0 t11_0 t11_1 t12_0 t12_1 t13_0 t14_0 t14_1 t15_0 t15_1 t16_0 lx71 p379 y319 y320 y322 y323 f324 y327 y328 f329 y332 y333 f334 y337 y338 f339 p424 from (by rw [e425, e397, e396, e395, e394, e393, e392, e391, e390, e389, e388, e387, e386, e385, e384, e383, e382, e381]; have h := hS399; rw [S_NH_decimal_bt_c133_4.eq_1] at h; replace h := q_s2 h; with_reducible exact h))
                exact q_outT hno C0 V (⟨p424.1, (he421.trans (congrArg qE ((congrArg (fun z => z.1) (hE419.trans e425.symm)) : cx420 = _))), c426, hI, hF, y319, y320, y322, y323, f324, y327, y328, f329, y332, y333, f334, y337, y338, f339, y407, y408, f409, y412, y413, y415, y416, f417, hO318, hO321, hA325, hO326, hA330, hO331, hA335, hO336, hA340, hO406, hA410, hO411, hO414, hA418, (show (p424.1, y319, y320, y322, y323, f324, y327, y328, f329, y332, y333, f334, y337, y338, f339, y407, y408, f409, y412, y413, y415, y416, f417) = (F_NH_decimal_bt x2 x3 x4 x5 t0_0 t0_1 t1_0 t1_1 t2_0 t3_0 t3_1 t4_0 t5_0 t5_1 t6_0 t7_0 t7_1 t8_0 t9_0 t9_1 t10_0 t11_0 t11_1 t12_0 t12_1 t13_0 t14_0 t14_1 t15_0 t15_1 t16_0) from Eq.trans (by rw [e434, e433, e432, e431, e430, e429, e428, e427, F_NH_decimal_bt_c139_5.eq_1, if_neg c426]) hR435)⟩) hce hcv hcl (Nat.le_of_ble_eq_true rfl) (Nat.le_of_ble_eq_true rfl)
              ·
                obtain ⟨hI, hZ9⟩ := hp405
                obtain ⟨hu478, hZ9⟩ := hZ9
                obtain ⟨y441, hZ9⟩ := hZ9
                obtain ⟨y442, hZ9⟩ := hZ9
                obtain ⟨f443, hZ9⟩ := hZ9
                obtain ⟨y446, hZ9⟩ := hZ9
                obtain ⟨y447, hZ9⟩ := hZ9
                obtain ⟨y449, hZ9⟩ := hZ9
                obtain ⟨y450, hZ9⟩ := hZ9
                obtain ⟨f451, hZ9⟩ := hZ9
                obtain ⟨hO440, hZ9⟩ := hZ9
                obtain ⟨hA444, hZ9⟩ := hZ9
                obtain ⟨hO445, hZ9⟩ := hZ9
                obtain ⟨hO448, hZ9⟩ := hZ9
                obtain ⟨hA452, hZ9⟩ := hZ9
                obtain ⟨b453, hZ9⟩ := hZ9
                obtain ⟨b454, hZ9⟩ := hZ9
                obtain ⟨b455, hZ9⟩ := hZ9
                obtain ⟨b456, hZ9⟩ := hZ9
                obtain ⟨b457, hZ9⟩ := hZ9
                obtain ⟨b458, hZ9⟩ := hZ9
                obtain ⟨b459, hZ9⟩ := hZ9
                obtain ⟨b460, hZ9⟩ := hZ9
                obtain ⟨b461, hZ9⟩ := hZ9
                obtain ⟨b462, hZ9⟩ := hZ9
                obtain ⟨b463, hZ9⟩ := hZ9
                obtain ⟨b464, hZ9⟩ := hZ9
                obtain ⟨b465, hZ9⟩ := hZ9
                obtain ⟨b466, hZ9⟩ := hZ9
                obtain ⟨b467, hZ9⟩ := hZ9
                obtain ⟨b468, hZ9⟩ := hZ9
                obtain ⟨b469, hZ9⟩ := hZ9
                obtain ⟨b470, hZ9⟩ := hZ9
                obtain ⟨b471, hZ9⟩ := hZ9
                obtain ⟨b472, hZ9⟩ := hZ9
                obtain ⟨b473, hZ9⟩ := hZ9
                obtain ⟨b474, hZ9⟩ := hZ9
                obtain ⟨b475, hZ9⟩ := hZ9
                obtain ⟨b476, hE477⟩ := hZ9
                replace hO440 : u404[20]? = (some (q 20, .inr (2, [.ref (q 21), .int y441, .int y442])) : Option (Nat × va_E)) := hO440
                replace hA444 : u404[21]? = (some (q 21, .inl (g 0, (220 : Int32).toNatClampNeg, .inl f443)) : Option (Nat × va_E)) := hA444
                replace hO445 : u404[d4]? = (some (q d4, .inr (3, [.ref (q (d4 + 1)), .int y446, .int y447])) : Option (Nat × va_E)) := hO445
                replace hO448 : u404[d4 + 1]? = (some (q (d4 + 1), .inr (2, [.ref (q (d4 + 2)), .int y449, .int y450])) : Option (Nat × va_E)) := hO448
                replace hA452 : u404[d4 + 2]? = (some (q (d4 + 2), .inl (g 0, (108 : Int32).toNatClampNeg, .inl f451)) : Option (Nat × va_E)) := hA452
                obtain ⟨p424, e425⟩ : ∃ z, z = (F_NH_keepDecimal x5 y319 y320 y322 y323 f324 t9_0 t9_1 t10_0 t14_0 t14_1 y342 y343 f344) := ⟨_, rfl⟩
                have c426 : p424.1 = (0 : Int32) := ((congrArg (fun z => z.1) (hE477.trans e425.symm)) : (0 : Int32) = _).symm
                have e480 : y441 = p424.2.1 := congrArg (fun z => z.2.1) (hE477.trans e425.symm)
                have e481 : y442 = p424.2.2.1 := congrArg (fun z => z.2.2.1) (hE477.trans e425.symm)
                have e482 : f443 = p424.2.2.2.1 := congrArg (fun z => z.2.2.2.1) (hE477.trans e425.symm)
                have e483 : y446 = p424.2.2.2.2.1 := congrArg (fun z => z.2.2.2.2.1) (hE477.trans e425.symm)
                have e484 : y447 = p424.2.2.2.2.2.1 := congrArg (fun z => z.2.2.2.2.2.1) (hE477.trans e425.symm)
                have e485 : y449 = p424.2.2.2.2.2.2.1 := congrArg (fun z => z.2.2.2.2.2.2.1) (hE477.trans e425.symm)
                have e486 : y450 = p424.2.2.2.2.2.2.2.1 := congrArg (fun z => z.2.2.2.2.2.2.2.1) (hE477.trans e425.symm)
                have e487 : f451 = p424.2.2.2.2.2.2.2.2 := congrArg (fun z => z.2.2.2.2.2.2.2.2) (hE477.trans e425.symm)
                replace b453 : q_F (0 ≤ y441.toInt) := b453
                replace b454 : q_F (y441.toInt ≤ 220) := b454
                replace b455 : q_F (0 ≤ y442.toInt) := b455
                replace b456 : q_F (y442.toInt ≤ 1) := b456
                replace b457 : q_F (0 ≤ y446.toInt + 10000) := b457
                replace b458 : q_F (y446.toInt ≤ 10000) := b458
                replace b459 : q_F (1 ≤ y447.toInt) := b459
                replace b460 : q_F (y447.toInt ≤ 1000) := b460
                replace b461 : q_F (0 ≤ y449.toInt) := b461
                replace b462 : q_F (y449.toInt ≤ 108) := b462
                replace b463 : q_F (0 ≤ y450.toInt) := b463
                replace b464 : q_F (y450.toInt ≤ 1) := b464
                replace b465 : q_F (x5.toInt ≤ y441.toInt + 9) := b465
                replace b466 : q_F (y441.toInt ≤ x5.toInt + 220) := b466
                replace b467 : q_F (x5.toInt ≤ y442.toInt + 9) := b467
                replace b468 : q_F (y442.toInt ≤ x5.toInt + 1) := b468
                replace b469 : q_F (x5.toInt ≤ y446.toInt + 10009) := b469
                replace b470 : q_F (y446.toInt ≤ x5.toInt + 10000) := b470
                replace b471 : q_F (x5.toInt ≤ y447.toInt + 8) := b471
                replace b472 : q_F (y447.toInt ≤ x5.toInt + 1000) := b472
                replace b473 : q_F (x5.toInt ≤ y449.toInt + 9) := b473
                replace b474 : q_F (y449.toInt ≤ x5.toInt + 108) := b474
                replace b475 : q_F (x5.toInt ≤ y450.toInt + 9) := b475
                replace b476 : q_F (y450.toInt ≤ x5.toInt + 1) := b476
                replace hO318 := (hu478 _ (by have z0 := yd4; simp only [List.mem_cons, List.not_mem_nil, or_false, not_or]; omega)).trans hO318
                replace hO321 := (hu478 _ (by have z0 := yd4; simp only [List.mem_cons, List.not_mem_nil, or_false, not_or]; omega)).trans hO321
                replace hA325 := (hu478 _ (by have z0 := yd4; simp only [List.mem_cons, List.not_mem_nil, or_false, not_or]; omega)).trans hA325
                replace hO326 := (hu478 _ (by have z0 := yd4; simp only [List.mem_cons, List.not_mem_nil, or_false, not_or]; omega)).trans hO326
                replace hA330 := (hu478 _ (by have z0 := yd4; simp only [List.mem_cons, List.not_mem_nil, or_false, not_or]; omega)).trans hA330
                replace hO331 := (hu478 _ (by have z0 := yd4; simp only [List.mem_cons, List.not_mem_nil, or_false, not_or]; omega)).trans hO331
                replace hA335 := (hu478 _ (by have z0 := yd4; simp only [List.mem_cons, List.not_mem_nil, or_false, not_or]; omega)).trans hA335
                replace hO336 := (hu478 _ (by have z0 := yd4; simp only [List.mem_cons, List.not_mem_nil, or_false, not_or]; omega)).trans hO336
                replace hA340 := (hu478 _ (by have z0 := yd4; simp only [List.mem_cons, List.not_mem_nil, or_false, not_or]; omega)).trans hA340
                replace hF := q_uc hF hu478 (by simp)
                have hR435 := (show F_NH_decimal_bt_c139_5 x2 x3 x4 x5 t0_0 t0_1 t1_0 t1_1 t2_0 t3_0 t3_1 t4_0 t5_0 t5_1 t6_0 t7_0 t7_1 t8_0 t9_0 t9_1 t10_0 t11_0 t11_1 t12_0 t12_1 t13_0 t14_0 t14_1 t15_0 t15_1 t16_0 lx71 p379 y319 y320 y322 y323 f324 y327 y328 f329 y332 y333 f334 y337 y338 f339 p424 = (F_NH_decimal_bt x2 x3 x4 x5 t0_0 t0_1 t1_0 t1_1 t2_0 t3_0 t3_1 t4_0 t5_0 t5_1 t6_0 t7_0 t7_1 t8_0 t9_0 t9_1 t10_0 t11_0 t11_1 t12_0 t12_1 t13_0 t14_0 t14_1 t15_0 t15_1 t16_0) from Eq.trans (by rw [e425, e397, e396, e395, e394, e393, e392, e391, e390, e389, e388, e387, e386, e385, e384, e383, e382, e381, F_NH_decimal_bt_c133_4.eq_1]) hR398)
                have hS436 := (show True ∧ S_NH_decimal_bt_c139_5 x2 x3 x4 x5 t0_0 t0_1 t1_0 t1_1 t2_0 t3_0 t3_1 t4_0 t5_0 t5_1 t6_0 t7_0 t7_1 t8_0 t9_0 t9_1 t10_0 t11_0 t11_1 t12_0 t12_1 t13_0 t14_0 t14_1 t15_0 t15_1 t16_0 lx71 p379 y319 y320 y322 y323 f324 y327 y328 f329 y332 y333 f334 y337 y338 f339 p424 from (by rw [e425, e397, e396, e395, e394, e393, e392, e391, e390, e389, e388, e387, e386, e385, e384, e383, e382, e381]; have h := hS399; rw [S_NH_decimal_bt_c133_4.eq_1] at h; replace h := q_s2 h; with_reducible exact h))
                exact q_retX (q_retv C0 V (⟨hI, hF, y319, y320, y322, y323, f324, y327, y328, f329, y332, y333, f334, y337, y338, f339, y441, y442, f443, y446, y447, y449, y450, f451, hO318, hO321, hA325, hO326, hA330, hO331, hA335, hO336, hA340, hO440, hA444, hO445, hO448, hA452, (show 0 ≤ y319.toInt + 20000 from (by first | with_reducible exact q_fe b346 | (have t1 : 0 ≤ y319.toInt + 10000 := b346; omega))), (show y319.toInt ≤ 20000 from (by first | with_reducible exact q_fe b347 | (have t1 : y319.toInt ≤ 10000 := b347; omega))), (show 0 ≤ y320.toInt from (by first | with_reducible exact q_fe b348 | (have t1 : 0 ≤ y320.toInt := b348; omega))), (show y320.toInt ≤ 1 from (by first | with_reducible exact q_fe b349 | (have t1 : y320.toInt ≤ 1 := b349; omega))), (show 0 ≤ y322.toInt from (by first | with_reducible exact q_fe b350 | (have t1 : 0 ≤ y322.toInt := b350; omega))), (show y322.toInt ≤ 220 from (by first | with_reducible exact q_fe b351 | (have t1 : y322.toInt ≤ 220 := b351; omega))), (show 0 ≤ y323.toInt from (by first | with_reducible exact q_fe b352 | (have t1 : 0 ≤ y323.toInt := b352; omega))), (show y323.toInt ≤ 1 from (by first | with_reducible exact q_fe b353 | (have t1 : y323.toInt ≤ 1 := b353; omega))), (show 0 ≤ y327.toInt from (by first | with_reducible exact q_fe b354 | (have t1 : 0 ≤ y327.toInt := b354; omega))), (show y327.toInt ≤ 220 from (by first | with_reducible exact q_fe b355 | (have t1 : y327.toInt ≤ 220 := b355; omega))), (show 0 ≤ y328.toInt from (by first | with_reducible exact q_fe b356 | (have t1 : 0 ≤ y328.toInt := b356; omega))), (show y328.toInt ≤ 1 from (by first | with_reducible exact q_fe b357 | (have t1 : y328.toInt ≤ 1 := b357; omega))), (show 0 ≤ y332.toInt from (by first | with_reducible exact q_fe b358 | (have t1 : 0 ≤ y332.toInt := b358; omega))), (show y332.toInt ≤ 220 from (by first | with_reducible exact q_fe b359 | (have t1 : y332.toInt ≤ 220 := b359; omega))), (show 0 ≤ y333.toInt from (by first | with_reducible exact q_fe b360 | (have t1 : 0 ≤ y333.toInt := b360; omega))), (show 0 ≤ y337.toInt from (by first | with_reducible exact q_fe b361 | (have t1 : 0 ≤ y337.toInt := b361; omega))), (show y337.toInt ≤ 220 from (by first | with_reducible exact q_fe b362 | (have t1 : y337.toInt ≤ 220 := b362; omega))), (show 0 ≤ y338.toInt from (by first | with_reducible exact q_fe b363 | (have t1 : 0 ≤ y338.toInt := b363; omega))), (show y338.toInt ≤ 1 from (by first | with_reducible exact q_fe b364 | (have t1 : y338.toInt ≤ 1 := b364; omega))), (show 0 ≤ y441.toInt from (by first | with_reducible exact q_fe b453 | (have t1 : 0 ≤ y441.toInt := b453; omega))), (show y441.toInt ≤ 220 from (by first | with_reducible exact q_fe b454 | (have t1 : y441.toInt ≤ 220 := b454; omega))), (show 0 ≤ y442.toInt from (by first | with_reducible exact q_fe b455 | (have t1 : 0 ≤ y442.toInt := b455; omega))), (show y442.toInt ≤ 1 from (by first | with_reducible exact q_fe b456 | (have t1 : y442.toInt ≤ 1 := b456; omega))), (show 0 ≤ y446.toInt + 10000 from (by first | with_reducible exact q_fe b457 | (have t1 : 0 ≤ y446.toInt + 10000 := b457; omega))), (show y446.toInt ≤ 10000 from (by first | with_reducible exact q_fe b458 | (have t1 : y446.toInt ≤ 10000 := b458; omega))), (show 1 ≤ y447.toInt from (by first | with_reducible exact q_fe b459 | (have t1 : 1 ≤ y447.toInt := b459; omega))), (show y447.toInt ≤ 1000 from (by first | with_reducible exact q_fe b460 | (have t1 : y447.toInt ≤ 1000 := b460; omega))), (show 0 ≤ y449.toInt from (by first | with_reducible exact q_fe b461 | (have t1 : 0 ≤ y449.toInt := b461; omega))), (show y449.toInt ≤ 108 from (by first | with_reducible exact q_fe b462 | (have t1 : y449.toInt ≤ 108 := b462; omega))), (show 0 ≤ y450.toInt from (by first | with_reducible exact q_fe b463 | (have t1 : 0 ≤ y450.toInt := b463; omega))), (show y450.toInt ≤ 1 from (by first | with_reducible exact q_fe b464 | (have t1 : y450.toInt ≤ 1 := b464; omega))), (show x3.toInt ≤ y319.toInt + 20009 from (by have t1 : x3.toInt ≤ 9 := ob109; have t2 : 0 ≤ y319.toInt + 10000 := b346; omega)), (show y319.toInt ≤ x3.toInt + 20000 from (by have t1 : 0 ≤ x3.toInt := ob108; have t2 : y319.toInt ≤ 10000 := b347; omega)), (show x4.toInt ≤ y319.toInt + 20009 from (by have t1 : x4.toInt ≤ 9 := ob114; have t2 : 0 ≤ y319.toInt + 10000 := b346; omega)), (show y319.toInt ≤ x4.toInt + 20000 from (by have t1 : 0 ≤ x4.toInt := ob113; have t2 : y319.toInt ≤ 10000 := b347; omega)), (show t11_0.toInt ≤ y319.toInt + 10000 from (by first | with_reducible exact q_fe b369 | (have t1 : t11_0.toInt ≤ y319.toInt := b369; omega))), (show y319.toInt ≤ t11_0.toInt + 20000 from (by have t1 : -10000 ≤ t11_0.toInt ∧ t11_0.toInt ≤ 10000 := btt11_0; have t2 : y319.toInt ≤ 10000 := b347; omega)), (show t14_0.toInt ≤ y319.toInt + 10000 from (by first | with_reducible exact q_fe b370 | (have t1 : t14_0.toInt ≤ y319.toInt := b370; omega))), (show y319.toInt ≤ t14_0.toInt + 20000 from (by have t1 : -10000 ≤ t14_0.toInt ∧ t14_0.toInt ≤ 10000 := btt14_0; have t2 : y319.toInt ≤ 10000 := b347; omega)), (show x3.toInt ≤ y320.toInt + 9 from (by have t1 : x3.toInt ≤ 9 := ob109; have t2 : 0 ≤ y320.toInt := b348; omega)), (show y320.toInt ≤ x3.toInt + 1 from (by have t1 : 0 ≤ x3.toInt := ob108; have t2 : y320.toInt ≤ 1 := b349; omega)), (show x4.toInt ≤ y320.toInt + 9 from (by have t1 : x4.toInt ≤ 9 := ob114; have t2 : 0 ≤ y320.toInt := b348; omega)), (show y320.toInt ≤ x4.toInt + 1 from (by have t1 : 0 ≤ x4.toInt := ob113; have t2 : y320.toInt ≤ 1 := b349; omega)), (show t0_1.toInt ≤ y320.toInt from (by first | with_reducible exact q_fe b371 | (have t1 : t0_1.toInt ≤ y320.toInt := b371; omega))), (show y320.toInt ≤ t0_1.toInt from (by first | with_reducible exact q_fe b372 | (have t1 : y320.toInt ≤ t0_1.toInt := b372; omega))), (show x3.toInt ≤ y322.toInt + 9 from (by have t1 : x3.toInt ≤ 9 := ob109; have t2 : 0 ≤ y322.toInt := b350; omega)), (show y322.toInt ≤ x3.toInt + 220 from (by have t1 : 0 ≤ x3.toInt := ob108; have t2 : y322.toInt ≤ 220 := b351; omega)), (show x4.toInt ≤ y322.toInt + 9 from (by have t1 : x4.toInt ≤ 9 := ob114; have t2 : 0 ≤ y322.toInt := b350; omega)), (show y322.toInt ≤ x4.toInt + 220 from (by have t1 : 0 ≤ x4.toInt := ob113; have t2 : y322.toInt ≤ 220 := b351; omega)), (show x3.toInt ≤ y323.toInt + 9 from (by have t1 : x3.toInt ≤ 9 := ob109; have t2 : 0 ≤ y323.toInt := b352; omega)), (show y323.toInt ≤ x3.toInt + 1 from (by have t1 : 0 ≤ x3.toInt := ob108; have t2 : y323.toInt ≤ 1 := b353; omega)), (show x4.toInt ≤ y323.toInt + 9 from (by have t1 : x4.toInt ≤ 9 := ob114; have t2 : 0 ≤ y323.toInt := b352; omega)), (show y323.toInt ≤ x4.toInt + 1 from (by have t1 : 0 ≤ x4.toInt := ob113; have t2 : y323.toInt ≤ 1 := b353; omega)), (show x3.toInt ≤ y327.toInt + 9 from (by have t1 : x3.toInt ≤ 9 := ob109; have t2 : 0 ≤ y327.toInt := b354; omega)), (show y327.toInt ≤ x3.toInt + 220 from (by have t1 : 0 ≤ x3.toInt := ob108; have t2 : y327.toInt ≤ 220 := b355; omega)), (show x4.toInt ≤ y327.toInt + 9 from (by have t1 : x4.toInt ≤ 9 := ob114; have t2 : 0 ≤ y327.toInt := b354; omega)), (show y327.toInt ≤ x4.toInt + 220 from (by have t1 : 0 ≤ x4.toInt := ob113; have t2 : y327.toInt ≤ 220 := b355; omega)), (show x3.toInt ≤ y328.toInt + 9 from (by have t1 : x3.toInt ≤ 9 := ob109; have t2 : 0 ≤ y328.toInt := b356; omega)), (show y328.toInt ≤ x3.toInt + 1 from (by have t1 : 0 ≤ x3.toInt := ob108; have t2 : y328.toInt ≤ 1 := b357; omega)), (show x4.toInt ≤ y328.toInt + 9 from (by have t1 : x4.toInt ≤ 9 := ob114; have t2 : 0 ≤ y328.toInt := b356; omega)), (show y328.toInt ≤ x4.toInt + 1 from (by have t1 : 0 ≤ x4.toInt := ob113; have t2 : y328.toInt ≤ 1 := b357; omega)), (show y328.toInt ≤ t3_1.toInt from (by first | with_reducible exact q_fe b374 | (have t1 : y328.toInt ≤ t3_1.toInt := b374; omega))), (show x3.toInt ≤ y332.toInt + 9 from (by have t1 : x3.toInt ≤ 9 := ob109; have t2 : 0 ≤ y332.toInt := b358; omega)), (show y332.toInt ≤ x3.toInt + 220 from (by have t1 : 0 ≤ x3.toInt := ob108; have t2 : y332.toInt ≤ 220 := b359; omega)), (show x4.toInt ≤ y332.toInt + 9 from (by have t1 : x4.toInt ≤ 9 := ob114; have t2 : 0 ≤ y332.toInt := b358; omega)), (show y332.toInt ≤ x4.toInt + 220 from (by have t1 : 0 ≤ x4.toInt := ob113; have t2 : y332.toInt ≤ 220 := b359; omega)), (show x3.toInt ≤ y333.toInt + 9 from (by have t1 : x3.toInt ≤ 9 := ob109; have t2 : 0 ≤ y333.toInt := b360; omega)), (show x4.toInt ≤ y333.toInt + 9 from (by have t1 : x4.toInt ≤ 9 := ob114; have t2 : 0 ≤ y333.toInt := b360; omega)), (show x3.toInt ≤ y337.toInt + 9 from (by have t1 : x3.toInt ≤ 9 := ob109; have t2 : 0 ≤ y337.toInt := b361; omega)), (show y337.toInt ≤ x3.toInt + 220 from (by have t1 : 0 ≤ x3.toInt := ob108; have t2 : y337.toInt ≤ 220 := b362; omega)), (show x4.toInt ≤ y337.toInt + 9 from (by have t1 : x4.toInt ≤ 9 := ob114; have t2 : 0 ≤ y337.toInt := b361; omega)), (show y337.toInt ≤ x4.toInt + 220 from (by have t1 : 0 ≤ x4.toInt := ob113; have t2 : y337.toInt ≤ 220 := b362; omega)), (show x3.toInt ≤ y338.toInt + 9 from (by have t1 : x3.toInt ≤ 9 := ob109; have t2 : 0 ≤ y338.toInt := b363; omega)), (show y338.toInt ≤ x3.toInt + 1 from (by have t1 : 0 ≤ x3.toInt := ob108; have t2 : y338.toInt ≤ 1 := b364; omega)), (show x4.toInt ≤ y338.toInt + 9 from (by have t1 : x4.toInt ≤ 9 := ob114; have t2 : 0 ≤ y338.toInt := b363; omega)), (show y338.toInt ≤ x4.toInt + 1 from (by have t1 : 0 ≤ x4.toInt := ob113; have t2 : y338.toInt ≤ 1 := b364; omega)), (show x3.toInt ≤ y441.toInt + 9 from (by have t1 : x3.toInt ≤ 9 := ob109; have t2 : 0 ≤ y441.toInt := b453; omega)), (show y441.toInt ≤ x3.toInt + 220 from (by have t1 : 0 ≤ x3.toInt := ob108; have t2 : y441.toInt ≤ 220 := b454; omega)), (show x4.toInt ≤ y441.toInt + 9 from (by have t1 : x4.toInt ≤ 9 := ob114; have t2 : 0 ≤ y441.toInt := b453; omega)), (show y441.toInt ≤ x4.toInt + 220 from (by have t1 : 0 ≤ x4.toInt := ob113; have t2 : y441.toInt ≤ 220 := b454; omega)), (show x5.toInt ≤ y441.toInt + 9 from (by first | with_reducible exact q_fe b465 | (have t1 : x5.toInt ≤ y441.toInt + 9 := b465; omega))), (show y441.toInt ≤ x5.toInt + 220 from (by first | with_reducible exact q_fe b466 | (have t1 : y441.toInt ≤ x5.toInt + 220 := b466; omega))), (show x3.toInt ≤ y442.toInt + 9 from (by have t1 : x3.toInt ≤ 9 := ob109; have t2 : 0 ≤ y442.toInt := b455; omega)), (show y442.toInt ≤ x3.toInt + 1 from (by have t1 : 0 ≤ x3.toInt := ob108; have t2 : y442.toInt ≤ 1 := b456; omega)), (show x4.toInt ≤ y442.toInt + 9 from (by have t1 : x4.toInt ≤ 9 := ob114; have t2 : 0 ≤ y442.toInt := b455; omega)), (show y442.toInt ≤ x4.toInt + 1 from (by have t1 : 0 ≤ x4.toInt := ob113; have t2 : y442.toInt ≤ 1 := b456; omega)), (show x5.toInt ≤ y442.toInt + 9 from (by first | with_reducible exact q_fe b467 | (have t1 : x5.toInt ≤ y442.toInt + 9 := b467; omega))), (show y442.toInt ≤ x5.toInt + 1 from (by first | with_reducible exact q_fe b468 | (have t1 : y442.toInt ≤ x5.toInt + 1 := b468; omega))), (show x3.toInt ≤ y446.toInt + 10009 from (by have t1 : x3.toInt ≤ 9 := ob109; have t2 : 0 ≤ y446.toInt + 10000 := b457; omega)), (show y446.toInt ≤ x3.toInt + 10000 from (by have t1 : 0 ≤ x3.toInt := ob108; have t2 : y446.toInt ≤ 10000 := b458; omega)), (show x4.toInt ≤ y446.toInt + 10009 from (by have t1 : x4.toInt ≤ 9 := ob114; have t2 : 0 ≤ y446.toInt + 10000 := b457; omega)), (show y446.toInt ≤ x4.toInt + 10000 from (by have t1 : 0 ≤ x4.toInt := ob113; have t2 : y446.toInt ≤ 10000 := b458; omega)), (show x5.toInt ≤ y446.toInt + 10009 from (by first | with_reducible exact q_fe b469 | (have t1 : x5.toInt ≤ y446.toInt + 10009 := b469; omega))), (show y446.toInt ≤ x5.toInt + 10000 from (by first | with_reducible exact q_fe b470 | (have t1 : y446.toInt ≤ x5.toInt + 10000 := b470; omega))), (show x3.toInt ≤ y447.toInt + 8 from (by have t1 : x3.toInt ≤ 9 := ob109; have t2 : 1 ≤ y447.toInt := b459; omega)), (show y447.toInt ≤ x3.toInt + 1000 from (by have t1 : 0 ≤ x3.toInt := ob108; have t2 : y447.toInt ≤ 1000 := b460; omega)), (show x4.toInt ≤ y447.toInt + 8 from (by have t1 : x4.toInt ≤ 9 := ob114; have t2 : 1 ≤ y447.toInt := b459; omega)), (show y447.toInt ≤ x4.toInt + 1000 from (by have t1 : 0 ≤ x4.toInt := ob113; have t2 : y447.toInt ≤ 1000 := b460; omega)), (show x5.toInt ≤ y447.toInt + 8 from (by first | with_reducible exact q_fe b471 | (have t1 : x5.toInt ≤ y447.toInt + 8 := b471; omega))), (show y447.toInt ≤ x5.toInt + 1000 from (by first | with_reducible exact q_fe b472 | (have t1 : y447.toInt ≤ x5.toInt + 1000 := b472; omega))), (show x3.toInt ≤ y449.toInt + 9 from (by have t1 : x3.toInt ≤ 9 := ob109; have t2 : 0 ≤ y449.toInt := b461; omega)), (show y449.toInt ≤ x3.toInt + 108 from (by have t1 : 0 ≤ x3.toInt := ob108; have t2 : y449.toInt ≤ 108 := b462; omega)), (show x4.toInt ≤ y449.toInt + 9 from (by have t1 : x4.toInt ≤ 9 := ob114; have t2 : 0 ≤ y449.toInt := b461; omega)), (show y449.toInt ≤ x4.toInt + 108 from (by have t1 : 0 ≤ x4.toInt := ob113; have t2 : y449.toInt ≤ 108 := b462; omega)), (show x5.toInt ≤ y449.toInt + 9 from (by first | with_reducible exact q_fe b473 | (have t1 : x5.toInt ≤ y449.toInt + 9 := b473; omega))), (show y449.toInt ≤ x5.toInt + 108 from (by first | with_reducible exact q_fe b474 | (have t1 : y449.toInt ≤ x5.toInt + 108 := b474; omega))), (show x3.toInt ≤ y450.toInt + 9 from (by have t1 : x3.toInt ≤ 9 := ob109; have t2 : 0 ≤ y450.toInt := b463; omega)), (show y450.toInt ≤ x3.toInt + 1 from (by have t1 : 0 ≤ x3.toInt := ob108; have t2 : y450.toInt ≤ 1 := b464; omega)), (show x4.toInt ≤ y450.toInt + 9 from (by have t1 : x4.toInt ≤ 9 := ob114; have t2 : 0 ≤ y450.toInt := b463; omega)), (show y450.toInt ≤ x4.toInt + 1 from (by have t1 : 0 ≤ x4.toInt := ob113; have t2 : y450.toInt ≤ 1 := b464; omega)), (show x5.toInt ≤ y450.toInt + 9 from (by first | with_reducible exact q_fe b475 | (have t1 : x5.toInt ≤ y450.toInt + 9 := b475; omega))), (show y450.toInt ≤ x5.toInt + 1 from (by first | with_reducible exact q_fe b476 | (have t1 : y450.toInt ≤ x5.toInt + 1 := b476; omega))), (show ((0 : Int32), y319, y320, y322, y323, f324, y327, y328, f329, y332, y333, f334, y337, y338, f339, y441, y442, f443, y446, y447, y449, y450, f451) = (F_NH_decimal_bt x2 x3 x4 x5 t0_0 t0_1 t1_0 t1_1 t2_0 t3_0 t3_1 t4_0 t5_0 t5_1 t6_0 t7_0 t7_1 t8_0 t9_0 t9_1 t10_0 t11_0 t11_1 t12_0 t12_1 t13_0 t14_0 t14_1 t15_0 t15_1 t16_0) from Eq.trans (by rw [e487, e486, e485, e484, e483, e482, e481, e480, F_NH_decimal_bt_c139_5.eq_1, if_pos c426]) hR435)⟩) d_1_11_142)
        ·
          refine lv_aload_n hx hb d_1_11_92 rfl (lv_at hl 2 rfl) ?_
          refine q_get (ci := 0) (j := 7) (v := .ref (q 30)) C0 V i_NH rfl rfl hO106 (by decide) w_431 rfl d_1_11_93 ?_
          refine lv_aload hx hb d_1_11_96 (lv_at hl 1 rfl) ?_
          refine lv_aload hx hb d_1_11_98 (lv_at hl 0 rfl) ?_
          refine q_gov V (q_runV (As := [.ref (q d3), .ref (q d4)]) (rest := []) (d := 4) (mc := 0) (ms := 0) (ci := 5) C0 V rfl LV_NH_273 (X_DW_multiply l D g q ws d3 108 hBd3 (Or.inr yd3) d4 108 hBd4 (Or.inr yd4)  (by have z0 := yd3; omega) (by have z0 := yd3; omega) (by have z0 := yd3; omega) (by have z0 := yd3; omega) (by have z0 := yd3; omega) (by have z0 := yd3; omega) (by have z0 := yd3; omega) (by have z0 := yd3; omega) (by have z0 := yd4; omega) (by have z0 := yd4; omega) (by have z0 := yd4; omega) (by have z0 := yd4; omega) (by have z0 := yd4; omega) (by have z0 := yd4; omega) (by have z0 := yd4; omega) (by have z0 := yd4; omega) hI t0_0 t0_1 hT0 t1_0 t1_1 hT1 t2_0 hT2 t11_0 t11_1 hT11 t12_0 t12_1 hT12 t13_0 hT13 t14_0 t14_1 hT14 t15_0 t15_1 hT15 t16_0 hT16  _) rfl rfl hT0 rfl hl.1 rfl (Nat.le_of_ble_eq_true rfl) ⟨by decide, by decide⟩ ⟨Nat.le_of_ble_eq_true rfl, Nat.le_of_ble_eq_true rfl⟩ d_1_11_100) (fun u489 H locs hp490 V => ?_)
          obtain ⟨hI, hZ9⟩ := hp490
          obtain ⟨hu510, hZ9⟩ := hZ9
          obtain ⟨y492, hZ9⟩ := hZ9
          obtain ⟨y493, hZ9⟩ := hZ9
          obtain ⟨y495, hZ9⟩ := hZ9
          obtain ⟨y496, hZ9⟩ := hZ9
          obtain ⟨f497, hZ9⟩ := hZ9
          obtain ⟨hO491, hZ9⟩ := hZ9
          obtain ⟨hO494, hZ9⟩ := hZ9
          obtain ⟨hA498, hZ9⟩ := hZ9
          obtain ⟨b499, hZ9⟩ := hZ9
          obtain ⟨b500, hZ9⟩ := hZ9
          obtain ⟨b501, hZ9⟩ := hZ9
          obtain ⟨b502, hZ9⟩ := hZ9
          obtain ⟨b503, hZ9⟩ := hZ9
          obtain ⟨b504, hZ9⟩ := hZ9
          obtain ⟨b505, hZ9⟩ := hZ9
          obtain ⟨b506, hZ9⟩ := hZ9
          obtain ⟨b507, hZ9⟩ := hZ9
          obtain ⟨b508, hE509⟩ := hZ9
          replace hO491 : u489[30]? = (some (q 30, .inr (5, [.ref (q 31), .long y492, .ref (q 9), .int y493])) : Option (Nat × va_E)) := hO491
          replace hO494 : u489[10]? = (some (q 10, .inr (2, [.ref (q 11), .int y495, .int y496])) : Option (Nat × va_E)) := hO494
          replace hA498 : u489[11]? = (some (q 11, .inl (g 0, (220 : Int32).toNatClampNeg, .inl f497)) : Option (Nat × va_E)) := hA498
          obtain ⟨p511, e512⟩ : ∃ z, z = (F_DW_multiply (108 : Int32) (108 : Int32) t0_0 t0_1 t1_0 t1_1 t2_0 t11_0 t11_1 t12_0 t12_1 t13_0 t14_0 t14_1 t15_0 t15_1 t16_0) := ⟨_, rfl⟩
          have e513 : y492 = p511.1 := congrArg (fun z => z.1) (hE509.trans e512.symm)
          have e514 : y493 = p511.2.1 := congrArg (fun z => z.2.1) (hE509.trans e512.symm)
          have e515 : y495 = p511.2.2.1 := congrArg (fun z => z.2.2.1) (hE509.trans e512.symm)
          have e516 : y496 = p511.2.2.2.1 := congrArg (fun z => z.2.2.2.1) (hE509.trans e512.symm)
          have e517 : f497 = p511.2.2.2.2 := congrArg (fun z => z.2.2.2.2) (hE509.trans e512.symm)
          replace b499 : q_F (y495.toInt ≤ 220) := b499
          replace b500 : q_F (0 ≤ y496.toInt) := b500
          replace b501 : q_F (y496.toInt ≤ 1) := b501
          replace b502 : q_F (t11_0.toInt ≤ y492.toInt + 10000) := b502
          replace b503 : q_F (y492.toInt ≤ t11_0.toInt + 10000) := b503
          replace b504 : q_F (t14_0.toInt ≤ y492.toInt + 10000) := b504
          replace b505 : q_F (y492.toInt ≤ t14_0.toInt + 10000) := b505
          replace b506 : q_F (t0_1.toInt ≤ y493.toInt) := b506
          replace b507 : q_F (y493.toInt ≤ t0_1.toInt) := b507
          replace b508 : q_F (y496.toInt ≤ y495.toInt) := b508
          replace hT3 := (hu510 _ (by decide)).trans hT3
          replace hT4 := (hu510 _ (by decide)).trans hT4
          replace hT5 := (hu510 _ (by decide)).trans hT5
          replace hT6 := (hu510 _ (by decide)).trans hT6
          replace hT7 := (hu510 _ (by decide)).trans hT7
          replace hT8 := (hu510 _ (by decide)).trans hT8
          replace hT9 := (hu510 _ (by decide)).trans hT9
          replace hT10 := (hu510 _ (by decide)).trans hT10
          replace hT14 := (hu510 _ (by have z0 := yd4; simp only [List.mem_cons, List.not_mem_nil, or_false, not_or]; omega)).trans hT14
          replace hT15 := (hu510 _ (by have z0 := yd4; simp only [List.mem_cons, List.not_mem_nil, or_false, not_or]; omega)).trans hT15
          replace hT16 := (hu510 _ (by have z0 := yd4; simp only [List.mem_cons, List.not_mem_nil, or_false, not_or]; omega)).trans hT16
          replace hO106 := (hu510 _ (by decide)).trans hO106
          replace hF := q_uc hF hu510 (by simp)
          have hR518 := (show F_NH_decimal_bt_c100 x2 x3 x4 x5 t0_0 t0_1 t1_0 t1_1 t2_0 t3_0 t3_1 t4_0 t5_0 t5_1 t6_0 t7_0 t7_1 t8_0 t9_0 t9_1 t10_0 t11_0 t11_1 t12_0 t12_1 t13_0 t14_0 t14_1 t15_0 t15_1 t16_0 lx71 p511 = (F_NH_decimal_bt x2 x3 x4 x5 t0_0 t0_1 t1_0 t1_1 t2_0 t3_0 t3_1 t4_0 t5_0 t5_1 t6_0 t7_0 t7_1 t8_0 t9_0 t9_1 t10_0 t11_0 t11_1 t12_0 t12_1 t13_0 t14_0 t14_1 t15_0 t15_1 t16_0) from Eq.trans (by rw [e512, F_NH_decimal_bt_J36.eq_1, if_pos c103, if_pos c117, if_pos c119]) hR92)
          have hS519 := (show True ∧ S_NH_decimal_bt_c100 x2 x3 x4 x5 t0_0 t0_1 t1_0 t1_1 t2_0 t3_0 t3_1 t4_0 t5_0 t5_1 t6_0 t7_0 t7_1 t8_0 t9_0 t9_1 t10_0 t11_0 t11_1 t12_0 t12_1 t13_0 t14_0 t14_1 t15_0 t15_1 t16_0 lx71 p511 from (by rw [e512]; have h := hS93; rw [S_NH_decimal_bt_J36.eq_1] at h; rw [if_pos c103] at h; replace h := q_s2 h; replace h := q_s2 h; replace h := q_s2 h; replace h := q_s2 h; rw [if_pos c117] at h; rw [if_pos c119] at h; with_reducible exact h))
          refine lv_goto (tgt := 136) hx hb d_1_11_103 (by decide) ?_
          refine lv_aload_n hx hb d_1_11_136 rfl (lv_at hl 2 rfl) ?_
          refine lv_iload hx hb d_1_11_137 (lv_at hl 6 rfl) ?_
          have ob523 : True ∧ S_NH_keepDecimal x5 y492 y493 y495 y496 f497 t9_0 t9_1 t10_0 t14_0 t14_1 t15_0 t15_1 t16_0 := (by rw [e517, e516, e515, e514, e513]; have h := hS519; rw [S_NH_decimal_bt_c100.eq_1] at h; with_reducible exact h.2.1)
          refine q_goxv V (q_runVX (As := [.int x5]) (rest := []) (d := 8) (mc := 1) (ms := 6) (ci := 0) C0 V rfl LV_NH_281 (X_NH_keepDecimal l D g q u489  x5 d4 hBd4 yd4 gd4x5 hlt hI y492 y493 hO491 y495 y496 hO494 f497 hA498 t9_0 t9_1 hT9 t10_0 hT10 t14_0 t14_1 hT14 t15_0 t15_1 hT15 t16_0 hT16 ob523 _) rfl rfl hO106 rfl hl.1 rfl (Nat.le_of_ble_eq_true rfl) ⟨by decide, by decide⟩ ⟨Nat.le_of_ble_eq_true rfl, Nat.le_of_ble_eq_true rfl⟩ d_1_11_139) (fun qx Ex ce u524 H locs hp525 V hce hcv hcl => ?_) (fun u524 H locs hp525 V => ?_)
          ·
            obtain ⟨cx540, hZ9⟩ := hp525
            obtain ⟨he541, hZ9⟩ := hZ9
            obtain ⟨hc542, hZ9⟩ := hZ9
            obtain ⟨hI, hZ9⟩ := hZ9
            obtain ⟨hu543, hZ9⟩ := hZ9
            obtain ⟨y527, hZ9⟩ := hZ9
            obtain ⟨y528, hZ9⟩ := hZ9
            obtain ⟨f529, hZ9⟩ := hZ9
            obtain ⟨y532, hZ9⟩ := hZ9
            obtain ⟨y533, hZ9⟩ := hZ9
            obtain ⟨y535, hZ9⟩ := hZ9
            obtain ⟨y536, hZ9⟩ := hZ9
            obtain ⟨f537, hZ9⟩ := hZ9
            obtain ⟨hO526, hZ9⟩ := hZ9
            obtain ⟨hA530, hZ9⟩ := hZ9
            obtain ⟨hO531, hZ9⟩ := hZ9
            obtain ⟨hO534, hZ9⟩ := hZ9
            obtain ⟨hA538, hE539⟩ := hZ9
            replace hO526 : u524[20]? = (some (q 20, .inr (2, [.ref (q 21), .int y527, .int y528])) : Option (Nat × va_E)) := hO526
            replace hA530 : u524[21]? = (some (q 21, .inl (g 0, (220 : Int32).toNatClampNeg, .inl f529)) : Option (Nat × va_E)) := hA530
            replace hO531 : u524[d4]? = (some (q d4, .inr (3, [.ref (q (d4 + 1)), .int y532, .int y533])) : Option (Nat × va_E)) := hO531
            replace hO534 : u524[d4 + 1]? = (some (q (d4 + 1), .inr (2, [.ref (q (d4 + 2)), .int y535, .int y536])) : Option (Nat × va_E)) := hO534
            replace hA538 : u524[d4 + 2]? = (some (q (d4 + 2), .inl (g 0, (108 : Int32).toNatClampNeg, .inl f537)) : Option (Nat × va_E)) := hA538
            obtain ⟨p544, e545⟩ : ∃ z, z = (F_NH_keepDecimal x5 y492 y493 y495 y496 f497 t9_0 t9_1 t10_0 t14_0 t14_1 t15_0 t15_1 t16_0) := ⟨_, rfl⟩
            have c546 : ¬ p544.1 = (0 : Int32) := fun z => hc542 (((congrArg (fun z => z.1) (hE539.trans e545.symm)) : cx540 = _).trans z)
            have e547 : y527 = p544.2.1 := congrArg (fun z => z.2.1) (hE539.trans e545.symm)
            have e548 : y528 = p544.2.2.1 := congrArg (fun z => z.2.2.1) (hE539.trans e545.symm)
            have e549 : f529 = p544.2.2.2.1 := congrArg (fun z => z.2.2.2.1) (hE539.trans e545.symm)
            have e550 : y532 = p544.2.2.2.2.1 := congrArg (fun z => z.2.2.2.2.1) (hE539.trans e545.symm)
            have e551 : y533 = p544.2.2.2.2.2.1 := congrArg (fun z => z.2.2.2.2.2.1) (hE539.trans e545.symm)
            have e552 : y535 = p544.2.2.2.2.2.2.1 := congrArg (fun z => z.2.2.2.2.2.2.1) (hE539.trans e545.symm)
            have e553 : y536 = p544.2.2.2.2.2.2.2.1 := congrArg (fun z => z.2.2.2.2.2.2.2.1) (hE539.trans e545.symm)
            have e554 : f537 = p544.2.2.2.2.2.2.2.2 := congrArg (fun z => z.2.2.2.2.2.2.2.2) (hE539.trans e545.symm)
            replace hO491 := (hu543 _ (by have z0 := yd4; simp only [List.mem_cons, List.not_mem_nil, or_false, not_or]; omega)).trans hO491
            replace hO494 := (hu543 _ (by have z0 := yd4; simp only [List.mem_cons, List.not_mem_nil, or_false, not_or]; omega)).trans hO494
            replace hA498 := (hu543 _ (by have z0 := yd4; simp only [List.mem_cons, List.not_mem_nil, or_false, not_or]; omega)).trans hA498
            replace hT3 := (hu543 _ (by have z0 := yd4; simp only [List.mem_cons, List.not_mem_nil, or_false, not_or]; omega)).trans hT3
            replace hT4 := (hu543 _ (by have z0 := yd4; simp only [List.mem_cons, List.not_mem_nil, or_false, not_or]; omega)).trans hT4
            replace hT5 := (hu543 _ (by have z0 := yd4; simp only [List.mem_cons, List.not_mem_nil, or_false, not_or]; omega)).trans hT5
            replace hT6 := (hu543 _ (by have z0 := yd4; simp only [List.mem_cons, List.not_mem_nil, or_false, not_or]; omega)).trans hT6
            replace hT7 := (hu543 _ (by have z0 := yd4; simp only [List.mem_cons, List.not_mem_nil, or_false, not_or]; omega)).trans hT7
            replace hT8 := (hu543 _ (by have z0 := yd4; simp only [List.mem_cons, List.not_mem_nil, or_false, not_or]; omega)).trans hT8
            replace hF := q_uc hF hu543 (by simp)
            have hR555 := (show F_NH_decimal_bt_c139_7 x2 x3 x4 x5 t0_0 t0_1 t1_0 t1_1 t2_0 t3_0 t3_1 t4_0 t5_0 t5_1 t6_0 t7_0 t7_1 t8_0 t9_0 t9_1 t10_0 t11_0 t11_1 t12_0 t12_1 t13_0 t14_0 t14_1 t15_0 t15_1 t16_0 lx71 p511 y492 y493 y495 y496 f497 p544 = (F_NH_decimal_bt x2 x3 x4 x5 t0_0 t0_1 t1_0 t1_1 t2_0 t3_0 t3_1 t4_0 t5_0 t5_1 t6_0 t7_0 t7_1 t8_0 t9_0 t9_1 t10_0 t11_0 t11_1 t12_0 t12_1 t13_0 t14_0 t14_1 t15_0 t15_1 t16_0) from Eq.trans (by rw [e545, e517, e516, e515, e514, e513, F_NH_decimal_bt_c100.eq_1]) hR518)
            have hS556 := (show True ∧ S_NH_decimal_bt_c139_7 x2 x3 x4 x5 t0_0 t0_1 t1_0 t1_1 t2_0 t3_0 t3_1 t4_0 t5_0 t5_1 t6_0 t7_0 t7_1 t8_0 t9_0 t9_1 t10_0 t11_0 t11_1 t12_0 t12_1 t13_0 t14_0 t14_1 t15_0 t15_1 t16_0 lx71 p511 y492 y493 y495 y496 f497 p544 from (by rw [e545, e517, e516, e515, e514, e513]; have h := hS519; rw [S_NH_decimal_bt_c100.eq_1] at h; replace h := q_s2 h; with_reducible exact h))
            exact q_outT hno C0 V (⟨p544.1, (he541.trans (congrArg qE ((congrArg (fun z => z.1) (hE539.trans e545.symm)) : cx540 = _))), c546, hI, hF, y492, y493, y495, y496, f497, t3_0, t3_1, t4_0, t5_0, t5_1, t6_0, t7_0, t7_1, t8_0, y527, y528, f529, y532, y533, y535, y536, f537, hO491, hO494, hA498, hT3, hT4, hT5, hT6, hT7, hT8, hO526, hA530, hO531, hO534, hA538, (show (p544.1, y492, y493, y495, y496, f497, t3_0, t3_1, t4_0, t5_0, t5_1, t6_0, t7_0, t7_1, t8_0, y527, y528, f529, y532, y533, y535, y536, f537) = (F_NH_decimal_bt x2 x3 x4 x5 t0_0 t0_1 t1_0 t1_1 t2_0 t3_0 t3_1 t4_0 t5_0 t5_1 t6_0 t7_0 t7_1 t8_0 t9_0 t9_1 t10_0 t11_0 t11_1 t12_0 t12_1 t13_0 t14_0 t14_1 t15_0 t15_1 t16_0) from Eq.trans (by rw [e554, e553, e552, e551, e550, e549, e548, e547, F_NH_decimal_bt_c139_7.eq_1, if_neg c546]) hR555)⟩) hce hcv hcl (Nat.le_of_ble_eq_true rfl) (Nat.le_of_ble_eq_true rfl)
          ·
            obtain ⟨hI, hZ9⟩ := hp525
            obtain ⟨hu598, hZ9⟩ := hZ9
            obtain ⟨y561, hZ9⟩ := hZ9
            obtain ⟨y562, hZ9⟩ := hZ9
            obtain ⟨f563, hZ9⟩ := hZ9
            obtain ⟨y566, hZ9⟩ := hZ9
            obtain ⟨y567, hZ9⟩ := hZ9
            obtain ⟨y569, hZ9⟩ := hZ9
            obtain ⟨y570, hZ9⟩ := hZ9
            obtain ⟨f571, hZ9⟩ := hZ9
            obtain ⟨hO560, hZ9⟩ := hZ9
            obtain ⟨hA564, hZ9⟩ := hZ9
            obtain ⟨hO565, hZ9⟩ := hZ9
            obtain ⟨hO568, hZ9⟩ := hZ9
            obtain ⟨hA572, hZ9⟩ := hZ9
            obtain ⟨b573, hZ9⟩ := hZ9
            obtain ⟨b574, hZ9⟩ := hZ9
            obtain ⟨b575, hZ9⟩ := hZ9
            obtain ⟨b576, hZ9⟩ := hZ9
            obtain ⟨b577, hZ9⟩ := hZ9
            obtain ⟨b578, hZ9⟩ := hZ9
            obtain ⟨b579, hZ9⟩ := hZ9
            obtain ⟨b580, hZ9⟩ := hZ9
            obtain ⟨b581, hZ9⟩ := hZ9
            obtain ⟨b582, hZ9⟩ := hZ9
            obtain ⟨b583, hZ9⟩ := hZ9
            obtain ⟨b584, hZ9⟩ := hZ9
            obtain ⟨b585, hZ9⟩ := hZ9
            obtain ⟨b586, hZ9⟩ := hZ9
            obtain ⟨b587, hZ9⟩ := hZ9
            obtain ⟨b588, hZ9⟩ := hZ9
            obtain ⟨b589, hZ9⟩ := hZ9
            obtain ⟨b590, hZ9⟩ := hZ9
            obtain ⟨b591, hZ9⟩ := hZ9
            obtain ⟨b592, hZ9⟩ := hZ9
            obtain ⟨b593, hZ9⟩ := hZ9
            obtain ⟨b594, hZ9⟩ := hZ9
            obtain ⟨b595, hZ9⟩ := hZ9
            obtain ⟨b596, hE597⟩ := hZ9
            replace hO560 : u524[20]? = (some (q 20, .inr (2, [.ref (q 21), .int y561, .int y562])) : Option (Nat × va_E)) := hO560
            replace hA564 : u524[21]? = (some (q 21, .inl (g 0, (220 : Int32).toNatClampNeg, .inl f563)) : Option (Nat × va_E)) := hA564
            replace hO565 : u524[d4]? = (some (q d4, .inr (3, [.ref (q (d4 + 1)), .int y566, .int y567])) : Option (Nat × va_E)) := hO565
            replace hO568 : u524[d4 + 1]? = (some (q (d4 + 1), .inr (2, [.ref (q (d4 + 2)), .int y569, .int y570])) : Option (Nat × va_E)) := hO568
            replace hA572 : u524[d4 + 2]? = (some (q (d4 + 2), .inl (g 0, (108 : Int32).toNatClampNeg, .inl f571)) : Option (Nat × va_E)) := hA572
            obtain ⟨p544, e545⟩ : ∃ z, z = (F_NH_keepDecimal x5 y492 y493 y495 y496 f497 t9_0 t9_1 t10_0 t14_0 t14_1 t15_0 t15_1 t16_0) := ⟨_, rfl⟩
            have c546 : p544.1 = (0 : Int32) := ((congrArg (fun z => z.1) (hE597.trans e545.symm)) : (0 : Int32) = _).symm
            have e600 : y561 = p544.2.1 := congrArg (fun z => z.2.1) (hE597.trans e545.symm)
            have e601 : y562 = p544.2.2.1 := congrArg (fun z => z.2.2.1) (hE597.trans e545.symm)
            have e602 : f563 = p544.2.2.2.1 := congrArg (fun z => z.2.2.2.1) (hE597.trans e545.symm)
            have e603 : y566 = p544.2.2.2.2.1 := congrArg (fun z => z.2.2.2.2.1) (hE597.trans e545.symm)
            have e604 : y567 = p544.2.2.2.2.2.1 := congrArg (fun z => z.2.2.2.2.2.1) (hE597.trans e545.symm)
            have e605 : y569 = p544.2.2.2.2.2.2.1 := congrArg (fun z => z.2.2.2.2.2.2.1) (hE597.trans e545.symm)
            have e606 : y570 = p544.2.2.2.2.2.2.2.1 := congrArg (fun z => z.2.2.2.2.2.2.2.1) (hE597.trans e545.symm)
            have e607 : f571 = p544.2.2.2.2.2.2.2.2 := congrArg (fun z => z.2.2.2.2.2.2.2.2) (hE597.trans e545.symm)
            replace b573 : q_F (0 ≤ y561.toInt) := b573
            replace b574 : q_F (y561.toInt ≤ 220) := b574
            replace b575 : q_F (0 ≤ y562.toInt) := b575
            replace b576 : q_F (y562.toInt ≤ 1) := b576
            replace b577 : q_F (0 ≤ y566.toInt + 10000) := b577
            replace b578 : q_F (y566.toInt ≤ 10000) := b578
            replace b579 : q_F (1 ≤ y567.toInt) := b579
            replace b580 : q_F (y567.toInt ≤ 1000) := b580
            replace b581 : q_F (0 ≤ y569.toInt) := b581
            replace b582 : q_F (y569.toInt ≤ 108) := b582
            replace b583 : q_F (0 ≤ y570.toInt) := b583
            replace b584 : q_F (y570.toInt ≤ 1) := b584
            replace b585 : q_F (x5.toInt ≤ y561.toInt + 9) := b585
            replace b586 : q_F (y561.toInt ≤ x5.toInt + 220) := b586
            replace b587 : q_F (x5.toInt ≤ y562.toInt + 9) := b587
            replace b588 : q_F (y562.toInt ≤ x5.toInt + 1) := b588
            replace b589 : q_F (x5.toInt ≤ y566.toInt + 10009) := b589
            replace b590 : q_F (y566.toInt ≤ x5.toInt + 10000) := b590
            replace b591 : q_F (x5.toInt ≤ y567.toInt + 8) := b591
            replace b592 : q_F (y567.toInt ≤ x5.toInt + 1000) := b592
            replace b593 : q_F (x5.toInt ≤ y569.toInt + 9) := b593
            replace b594 : q_F (y569.toInt ≤ x5.toInt + 108) := b594
            replace b595 : q_F (x5.toInt ≤ y570.toInt + 9) := b595
            replace b596 : q_F (y570.toInt ≤ x5.toInt + 1) := b596
            replace hO491 := (hu598 _ (by have z0 := yd4; simp only [List.mem_cons, List.not_mem_nil, or_false, not_or]; omega)).trans hO491
            replace hO494 := (hu598 _ (by have z0 := yd4; simp only [List.mem_cons, List.not_mem_nil, or_false, not_or]; omega)).trans hO494
            replace hA498 := (hu598 _ (by have z0 := yd4; simp only [List.mem_cons, List.not_mem_nil, or_false, not_or]; omega)).trans hA498
            replace hT3 := (hu598 _ (by have z0 := yd4; simp only [List.mem_cons, List.not_mem_nil, or_false, not_or]; omega)).trans hT3
            replace hT4 := (hu598 _ (by have z0 := yd4; simp only [List.mem_cons, List.not_mem_nil, or_false, not_or]; omega)).trans hT4
            replace hT5 := (hu598 _ (by have z0 := yd4; simp only [List.mem_cons, List.not_mem_nil, or_false, not_or]; omega)).trans hT5
            replace hT6 := (hu598 _ (by have z0 := yd4; simp only [List.mem_cons, List.not_mem_nil, or_false, not_or]; omega)).trans hT6
            replace hT7 := (hu598 _ (by have z0 := yd4; simp only [List.mem_cons, List.not_mem_nil, or_false, not_or]; omega)).trans hT7
            replace hT8 := (hu598 _ (by have z0 := yd4; simp only [List.mem_cons, List.not_mem_nil, or_false, not_or]; omega)).trans hT8
            replace hF := q_uc hF hu598 (by simp)
            have hR555 := (show F_NH_decimal_bt_c139_7 x2 x3 x4 x5 t0_0 t0_1 t1_0 t1_1 t2_0 t3_0 t3_1 t4_0 t5_0 t5_1 t6_0 t7_0 t7_1 t8_0 t9_0 t9_1 t10_0 t11_0 t11_1 t12_0 t12_1 t13_0 t14_0 t14_1 t15_0 t15_1 t16_0 lx71 p511 y492 y493 y495 y496 f497 p544 = (F_NH_decimal_bt x2 x3 x4 x5 t0_0 t0_1 t1_0 t1_1 t2_0 t3_0 t3_1 t4_0 t5_0 t5_1 t6_0 t7_0 t7_1 t8_0 t9_0 t9_1 t10_0 t11_0 t11_1 t12_0 t12_1 t13_0 t14_0 t14_1 t15_0 t15_1 t16_0) from Eq.trans (by rw [e545, e517, e516, e515, e514, e513, F_NH_decimal_bt_c100.eq_1]) hR518)
            have hS556 := (show True ∧ S_NH_decimal_bt_c139_7 x2 x3 x4 x5 t0_0 t0_1 t1_0 t1_1 t2_0 t3_0 t3_1 t4_0 t5_0 t5_1 t6_0 t7_0 t7_1 t8_0 t9_0 t9_1 t10_0 t11_0 t11_1 t12_0 t12_1 t13_0 t14_0 t14_1 t15_0 t15_1 t16_0 lx71 p511 y492 y493 y495 y496 f497 p544 from (by rw [e545, e517, e516, e515, e514, e513]; have h := hS519; rw [S_NH_decimal_bt_c100.eq_1] at h; replace h := q_s2 h; with_reducible exact h))
            refine W.widen (k := 3) (n := 18) (Nat.le_of_ble_eq_true rfl) (Nat.le_of_ble_eq_true rfl) ?_
            exact q_retX (q_retv C0 V (⟨hI, hF, y492, y493, y495, y496, f497, t3_0, t3_1, t4_0, t5_0, t5_1, t6_0, t7_0, t7_1, t8_0, y561, y562, f563, y566, y567, y569, y570, f571, hO491, hO494, hA498, hT3, hT4, hT5, hT6, hT7, hT8, hO560, hA564, hO565, hO568, hA572, (show 0 ≤ y492.toInt + 20000 from (by have t1 : -10000 ≤ t11_0.toInt ∧ t11_0.toInt ≤ 10000 := btt11_0; have t2 : t11_0.toInt ≤ y492.toInt + 10000 := b502; omega)), (show y492.toInt ≤ 20000 from (by have t1 : -10000 ≤ t11_0.toInt ∧ t11_0.toInt ≤ 10000 := btt11_0; have t2 : y492.toInt ≤ t11_0.toInt + 10000 := b503; omega)), (show 0 ≤ y493.toInt from (by have t1 : 0 ≤ t0_1.toInt ∧ t0_1.toInt ≤ 1 := btt0_1; have t2 : t0_1.toInt ≤ y493.toInt := b506; omega)), (show y493.toInt ≤ 1 from (by have t1 : 0 ≤ t0_1.toInt ∧ t0_1.toInt ≤ 1 := btt0_1; have t2 : y493.toInt ≤ t0_1.toInt := b507; omega)), (show 0 ≤ y495.toInt from (by have t1 : 0 ≤ y496.toInt := b500; have t2 : y496.toInt ≤ y495.toInt := b508; omega)), (show y495.toInt ≤ 220 from (by first | with_reducible exact q_fe b499 | (have t1 : y495.toInt ≤ 220 := b499; omega))), (show 0 ≤ y496.toInt from (by first | with_reducible exact q_fe b500 | (have t1 : 0 ≤ y496.toInt := b500; omega))), (show y496.toInt ≤ 1 from (by first | with_reducible exact q_fe b501 | (have t1 : y496.toInt ≤ 1 := b501; omega))), (show 0 ≤ t3_0.toInt from (by first | with_reducible exact (q_fe btt3_0).2 | with_reducible exact (q_fe btt3_0).1 | (have t1 : 0 ≤ t3_0.toInt ∧ t3_0.toInt ≤ 220 := btt3_0; omega))), (show t3_0.toInt ≤ 220 from (by first | with_reducible exact (q_fe btt3_0).2 | with_reducible exact (q_fe btt3_0).1 | (have t1 : 0 ≤ t3_0.toInt ∧ t3_0.toInt ≤ 220 := btt3_0; omega))), (show 0 ≤ t3_1.toInt from (by first | with_reducible exact (q_fe btt3_1).2 | with_reducible exact (q_fe btt3_1).1 | (have t1 : 0 ≤ t3_1.toInt ∧ t3_1.toInt ≤ 1 := btt3_1; omega))), (show t3_1.toInt ≤ 1 from (by first | with_reducible exact (q_fe btt3_1).2 | with_reducible exact (q_fe btt3_1).1 | (have t1 : 0 ≤ t3_1.toInt ∧ t3_1.toInt ≤ 1 := btt3_1; omega))), (show 0 ≤ t5_0.toInt from (by first | with_reducible exact (q_fe btt5_0).2 | with_reducible exact (q_fe btt5_0).1 | (have t1 : 0 ≤ t5_0.toInt ∧ t5_0.toInt ≤ 220 := btt5_0; omega))), (show t5_0.toInt ≤ 220 from (by first | with_reducible exact (q_fe btt5_0).2 | with_reducible exact (q_fe btt5_0).1 | (have t1 : 0 ≤ t5_0.toInt ∧ t5_0.toInt ≤ 220 := btt5_0; omega))), (show 0 ≤ t5_1.toInt from (by first | with_reducible exact (q_fe btt5_1).2 | with_reducible exact (q_fe btt5_1).1 | (have t1 : 0 ≤ t5_1.toInt ∧ t5_1.toInt ≤ 1 := btt5_1; omega))), (show 0 ≤ t7_0.toInt from (by first | with_reducible exact (q_fe btt7_0).2 | with_reducible exact (q_fe btt7_0).1 | (have t1 : 0 ≤ t7_0.toInt ∧ t7_0.toInt ≤ 220 := btt7_0; omega))), (show t7_0.toInt ≤ 220 from (by first | with_reducible exact (q_fe btt7_0).2 | with_reducible exact (q_fe btt7_0).1 | (have t1 : 0 ≤ t7_0.toInt ∧ t7_0.toInt ≤ 220 := btt7_0; omega))), (show 0 ≤ t7_1.toInt from (by first | with_reducible exact (q_fe btt7_1).2 | with_reducible exact (q_fe btt7_1).1 | (have t1 : 0 ≤ t7_1.toInt ∧ t7_1.toInt ≤ 1 := btt7_1; omega))), (show t7_1.toInt ≤ 1 from (by first | with_reducible exact (q_fe btt7_1).2 | with_reducible exact (q_fe btt7_1).1 | (have t1 : 0 ≤ t7_1.toInt ∧ t7_1.toInt ≤ 1 := btt7_1; omega))), (show 0 ≤ y561.toInt from (by first | with_reducible exact q_fe b573 | (have t1 : 0 ≤ y561.toInt := b573; omega))), (show y561.toInt ≤ 220 from (by first | with_reducible exact q_fe b574 | (have t1 : y561.toInt ≤ 220 := b574; omega))), (show 0 ≤ y562.toInt from (by first | with_reducible exact q_fe b575 | (have t1 : 0 ≤ y562.toInt := b575; omega))), (show y562.toInt ≤ 1 from (by first | with_reducible exact q_fe b576 | (have t1 : y562.toInt ≤ 1 := b576; omega))), (show 0 ≤ y566.toInt + 10000 from (by first | with_reducible exact q_fe b577 | (have t1 : 0 ≤ y566.toInt + 10000 := b577; omega))), (show y566.toInt ≤ 10000 from (by first | with_reducible exact q_fe b578 | (have t1 : y566.toInt ≤ 10000 := b578; omega))), (show 1 ≤ y567.toInt from (by first | with_reducible exact q_fe b579 | (have t1 : 1 ≤ y567.toInt := b579; omega))), (show y567.toInt ≤ 1000 from (by first | with_reducible exact q_fe b580 | (have t1 : y567.toInt ≤ 1000 := b580; omega))), (show 0 ≤ y569.toInt from (by first | with_reducible exact q_fe b581 | (have t1 : 0 ≤ y569.toInt := b581; omega))), (show y569.toInt ≤ 108 from (by first | with_reducible exact q_fe b582 | (have t1 : y569.toInt ≤ 108 := b582; omega))), (show 0 ≤ y570.toInt from (by first | with_reducible exact q_fe b583 | (have t1 : 0 ≤ y570.toInt := b583; omega))), (show y570.toInt ≤ 1 from (by first | with_reducible exact q_fe b584 | (have t1 : y570.toInt ≤ 1 := b584; omega))), (show x3.toInt ≤ y492.toInt + 20009 from (by have t1 : -10000 ≤ t11_0.toInt ∧ t11_0.toInt ≤ 10000 := btt11_0; have t2 : x3.toInt ≤ 9 := ob109; have t3 : t11_0.toInt ≤ y492.toInt + 10000 := b502; omega)), (show y492.toInt ≤ x3.toInt + 20000 from (by have t1 : -10000 ≤ t11_0.toInt ∧ t11_0.toInt ≤ 10000 := btt11_0; have t2 : 0 ≤ x3.toInt := ob108; have t3 : y492.toInt ≤ t11_0.toInt + 10000 := b503; omega)), (show x4.toInt ≤ y492.toInt + 20009 from (by have t1 : -10000 ≤ t11_0.toInt ∧ t11_0.toInt ≤ 10000 := btt11_0; have t2 : x4.toInt ≤ 9 := ob114; have t3 : t11_0.toInt ≤ y492.toInt + 10000 := b502; omega)), (show y492.toInt ≤ x4.toInt + 20000 from (by have t1 : -10000 ≤ t11_0.toInt ∧ t11_0.toInt ≤ 10000 := btt11_0; have t2 : 0 ≤ x4.toInt := ob113; have t3 : y492.toInt ≤ t11_0.toInt + 10000 := b503; omega)), (show t11_0.toInt ≤ y492.toInt + 10000 from (by first | with_reducible exact q_fe b502 | (have t1 : t11_0.toInt ≤ y492.toInt + 10000 := b502; omega))), (show y492.toInt ≤ t11_0.toInt + 20000 from (by first | with_reducible exact q_fe b503 | (have t1 : y492.toInt ≤ t11_0.toInt + 10000 := b503; omega))), (show t14_0.toInt ≤ y492.toInt + 10000 from (by first | with_reducible exact q_fe b504 | (have t1 : t14_0.toInt ≤ y492.toInt + 10000 := b504; omega))), (show y492.toInt ≤ t14_0.toInt + 20000 from (by first | with_reducible exact q_fe b505 | (have t1 : y492.toInt ≤ t14_0.toInt + 10000 := b505; omega))), (show x3.toInt ≤ y493.toInt + 9 from (by have t1 : 0 ≤ t0_1.toInt ∧ t0_1.toInt ≤ 1 := btt0_1; have t2 : x3.toInt ≤ 9 := ob109; have t3 : t0_1.toInt ≤ y493.toInt := b506; omega)), (show y493.toInt ≤ x3.toInt + 1 from (by have t1 : 0 ≤ t0_1.toInt ∧ t0_1.toInt ≤ 1 := btt0_1; have t2 : 0 ≤ x3.toInt := ob108; have t3 : y493.toInt ≤ t0_1.toInt := b507; omega)), (show x4.toInt ≤ y493.toInt + 9 from (by have t1 : 0 ≤ t0_1.toInt ∧ t0_1.toInt ≤ 1 := btt0_1; have t2 : x4.toInt ≤ 9 := ob114; have t3 : t0_1.toInt ≤ y493.toInt := b506; omega)), (show y493.toInt ≤ x4.toInt + 1 from (by have t1 : 0 ≤ t0_1.toInt ∧ t0_1.toInt ≤ 1 := btt0_1; have t2 : 0 ≤ x4.toInt := ob113; have t3 : y493.toInt ≤ t0_1.toInt := b507; omega)), (show t0_1.toInt ≤ y493.toInt from (by first | with_reducible exact q_fe b506 | (have t1 : t0_1.toInt ≤ y493.toInt := b506; omega))), (show y493.toInt ≤ t0_1.toInt from (by first | with_reducible exact q_fe b507 | (have t1 : y493.toInt ≤ t0_1.toInt := b507; omega))), (show x3.toInt ≤ y495.toInt + 9 from (by have t1 : x3.toInt ≤ 9 := ob109; have t2 : 0 ≤ y496.toInt := b500; have t3 : y496.toInt ≤ y495.toInt := b508; omega)), (show y495.toInt ≤ x3.toInt + 220 from (by have t1 : 0 ≤ x3.toInt := ob108; have t2 : y495.toInt ≤ 220 := b499; omega)), (show x4.toInt ≤ y495.toInt + 9 from (by have t1 : x4.toInt ≤ 9 := ob114; have t2 : 0 ≤ y496.toInt := b500; have t3 : y496.toInt ≤ y495.toInt := b508; omega)), (show y495.toInt ≤ x4.toInt + 220 from (by have t1 : 0 ≤ x4.toInt := ob113; have t2 : y495.toInt ≤ 220 := b499; omega)), (show x3.toInt ≤ y496.toInt + 9 from (by have t1 : x3.toInt ≤ 9 := ob109; have t2 : 0 ≤ y496.toInt := b500; omega)), (show y496.toInt ≤ x3.toInt + 1 from (by have t1 : 0 ≤ x3.toInt := ob108; have t2 : y496.toInt ≤ 1 := b501; omega)), (show x4.toInt ≤ y496.toInt + 9 from (by have t1 : x4.toInt ≤ 9 := ob114; have t2 : 0 ≤ y496.toInt := b500; omega)), (show y496.toInt ≤ x4.toInt + 1 from (by have t1 : 0 ≤ x4.toInt := ob113; have t2 : y496.toInt ≤ 1 := b501; omega)), (show x3.toInt ≤ t3_0.toInt + 9 from (by have t1 : 0 ≤ t3_0.toInt ∧ t3_0.toInt ≤ 220 := btt3_0; have t2 : x3.toInt ≤ 9 := ob109; omega)), (show t3_0.toInt ≤ x3.toInt + 220 from (by have t1 : 0 ≤ t3_0.toInt ∧ t3_0.toInt ≤ 220 := btt3_0; have t2 : 0 ≤ x3.toInt := ob108; omega)), (show x4.toInt ≤ t3_0.toInt + 9 from (by have t1 : 0 ≤ t3_0.toInt ∧ t3_0.toInt ≤ 220 := btt3_0; have t2 : x4.toInt ≤ 9 := ob114; omega)), (show t3_0.toInt ≤ x4.toInt + 220 from (by have t1 : 0 ≤ t3_0.toInt ∧ t3_0.toInt ≤ 220 := btt3_0; have t2 : 0 ≤ x4.toInt := ob113; omega)), (show x3.toInt ≤ t3_1.toInt + 9 from (by have t1 : 0 ≤ t3_1.toInt ∧ t3_1.toInt ≤ 1 := btt3_1; have t2 : x3.toInt ≤ 9 := ob109; omega)), (show t3_1.toInt ≤ x3.toInt + 1 from (by have t1 : 0 ≤ t3_1.toInt ∧ t3_1.toInt ≤ 1 := btt3_1; have t2 : 0 ≤ x3.toInt := ob108; omega)), (show x4.toInt ≤ t3_1.toInt + 9 from (by have t1 : 0 ≤ t3_1.toInt ∧ t3_1.toInt ≤ 1 := btt3_1; have t2 : x4.toInt ≤ 9 := ob114; omega)), (show t3_1.toInt ≤ x4.toInt + 1 from (by have t1 : 0 ≤ t3_1.toInt ∧ t3_1.toInt ≤ 1 := btt3_1; have t2 : 0 ≤ x4.toInt := ob113; omega)), (show t3_1.toInt ≤ t3_1.toInt from (by omega)), (show x3.toInt ≤ t5_0.toInt + 9 from (by have t1 : 0 ≤ t5_0.toInt ∧ t5_0.toInt ≤ 220 := btt5_0; have t2 : x3.toInt ≤ 9 := ob109; omega)), (show t5_0.toInt ≤ x3.toInt + 220 from (by have t1 : 0 ≤ t5_0.toInt ∧ t5_0.toInt ≤ 220 := btt5_0; have t2 : 0 ≤ x3.toInt := ob108; omega)), (show x4.toInt ≤ t5_0.toInt + 9 from (by have t1 : 0 ≤ t5_0.toInt ∧ t5_0.toInt ≤ 220 := btt5_0; have t2 : x4.toInt ≤ 9 := ob114; omega)), (show t5_0.toInt ≤ x4.toInt + 220 from (by have t1 : 0 ≤ t5_0.toInt ∧ t5_0.toInt ≤ 220 := btt5_0; have t2 : 0 ≤ x4.toInt := ob113; omega)), (show x3.toInt ≤ t5_1.toInt + 9 from (by have t1 : 0 ≤ t5_1.toInt ∧ t5_1.toInt ≤ 1 := btt5_1; have t2 : x3.toInt ≤ 9 := ob109; omega)), (show x4.toInt ≤ t5_1.toInt + 9 from (by have t1 : 0 ≤ t5_1.toInt ∧ t5_1.toInt ≤ 1 := btt5_1; have t2 : x4.toInt ≤ 9 := ob114; omega)), (show x3.toInt ≤ t7_0.toInt + 9 from (by have t1 : 0 ≤ t7_0.toInt ∧ t7_0.toInt ≤ 220 := btt7_0; have t2 : x3.toInt ≤ 9 := ob109; omega)), (show t7_0.toInt ≤ x3.toInt + 220 from (by have t1 : 0 ≤ t7_0.toInt ∧ t7_0.toInt ≤ 220 := btt7_0; have t2 : 0 ≤ x3.toInt := ob108; omega)), (show x4.toInt ≤ t7_0.toInt + 9 from (by have t1 : 0 ≤ t7_0.toInt ∧ t7_0.toInt ≤ 220 := btt7_0; have t2 : x4.toInt ≤ 9 := ob114; omega)), (show t7_0.toInt ≤ x4.toInt + 220 from (by have t1 : 0 ≤ t7_0.toInt ∧ t7_0.toInt ≤ 220 := btt7_0; have t2 : 0 ≤ x4.toInt := ob113; omega)), (show x3.toInt ≤ t7_1.toInt + 9 from (by have t1 : 0 ≤ t7_1.toInt ∧ t7_1.toInt ≤ 1 := btt7_1; have t2 : x3.toInt ≤ 9 := ob109; omega)), (show t7_1.toInt ≤ x3.toInt + 1 from (by have t1 : 0 ≤ t7_1.toInt ∧ t7_1.toInt ≤ 1 := btt7_1; have t2 : 0 ≤ x3.toInt := ob108; omega)), (show x4.toInt ≤ t7_1.toInt + 9 from (by have t1 : 0 ≤ t7_1.toInt ∧ t7_1.toInt ≤ 1 := btt7_1; have t2 : x4.toInt ≤ 9 := ob114; omega)), (show t7_1.toInt ≤ x4.toInt + 1 from (by have t1 : 0 ≤ t7_1.toInt ∧ t7_1.toInt ≤ 1 := btt7_1; have t2 : 0 ≤ x4.toInt := ob113; omega)), (show x3.toInt ≤ y561.toInt + 9 from (by have t1 : x3.toInt ≤ 9 := ob109; have t2 : 0 ≤ y561.toInt := b573; omega)), (show y561.toInt ≤ x3.toInt + 220 from (by have t1 : 0 ≤ x3.toInt := ob108; have t2 : y561.toInt ≤ 220 := b574; omega)), (show x4.toInt ≤ y561.toInt + 9 from (by have t1 : x4.toInt ≤ 9 := ob114; have t2 : 0 ≤ y561.toInt := b573; omega)), (show y561.toInt ≤ x4.toInt + 220 from (by have t1 : 0 ≤ x4.toInt := ob113; have t2 : y561.toInt ≤ 220 := b574; omega)), (show x5.toInt ≤ y561.toInt + 9 from (by first | with_reducible exact q_fe b585 | (have t1 : x5.toInt ≤ y561.toInt + 9 := b585; omega))), (show y561.toInt ≤ x5.toInt + 220 from (by first | with_reducible exact q_fe b586 | (have t1 : y561.toInt ≤ x5.toInt + 220 := b586; omega))), (show x3.toInt ≤ y562.toInt + 9 from (by have t1 : x3.toInt ≤ 9 := ob109; have t2 : 0 ≤ y562.toInt := b575; omega)), (show y562.toInt ≤ x3.toInt + 1 from (by have t1 : 0 ≤ x3.toInt := ob108; have t2 : y562.toInt ≤ 1 := b576; omega)), (show x4.toInt ≤ y562.toInt + 9 from (by have t1 : x4.toInt ≤ 9 := ob114; have t2 : 0 ≤ y562.toInt := b575; omega)), (show y562.toInt ≤ x4.toInt + 1 from (by have t1 : 0 ≤ x4.toInt := ob113; have t2 : y562.toInt ≤ 1 := b576; omega)), (show x5.toInt ≤ y562.toInt + 9 from (by first | with_reducible exact q_fe b587 | (have t1 : x5.toInt ≤ y562.toInt + 9 := b587; omega))), (show y562.toInt ≤ x5.toInt + 1 from (by first | with_reducible exact q_fe b588 | (have t1 : y562.toInt ≤ x5.toInt + 1 := b588; omega))), (show x3.toInt ≤ y566.toInt + 10009 from (by have t1 : x3.toInt ≤ 9 := ob109; have t2 : 0 ≤ y566.toInt + 10000 := b577; omega)), (show y566.toInt ≤ x3.toInt + 10000 from (by have t1 : 0 ≤ x3.toInt := ob108; have t2 : y566.toInt ≤ 10000 := b578; omega)), (show x4.toInt ≤ y566.toInt + 10009 from (by have t1 : x4.toInt ≤ 9 := ob114; have t2 : 0 ≤ y566.toInt + 10000 := b577; omega)), (show y566.toInt ≤ x4.toInt + 10000 from (by have t1 : 0 ≤ x4.toInt := ob113; have t2 : y566.toInt ≤ 10000 := b578; omega)), (show x5.toInt ≤ y566.toInt + 10009 from (by first | with_reducible exact q_fe b589 | (have t1 : x5.toInt ≤ y566.toInt + 10009 := b589; omega))), (show y566.toInt ≤ x5.toInt + 10000 from (by first | with_reducible exact q_fe b590 | (have t1 : y566.toInt ≤ x5.toInt + 10000 := b590; omega))), (show x3.toInt ≤ y567.toInt + 8 from (by have t1 : x3.toInt ≤ 9 := ob109; have t2 : 1 ≤ y567.toInt := b579; omega)), (show y567.toInt ≤ x3.toInt + 1000 from (by have t1 : 0 ≤ x3.toInt := ob108; have t2 : y567.toInt ≤ 1000 := b580; omega)), (show x4.toInt ≤ y567.toInt + 8 from (by have t1 : x4.toInt ≤ 9 := ob114; have t2 : 1 ≤ y567.toInt := b579; omega)), (show y567.toInt ≤ x4.toInt + 1000 from (by have t1 : 0 ≤ x4.toInt := ob113; have t2 : y567.toInt ≤ 1000 := b580; omega)), (show x5.toInt ≤ y567.toInt + 8 from (by first | with_reducible exact q_fe b591 | (have t1 : x5.toInt ≤ y567.toInt + 8 := b591; omega))), (show y567.toInt ≤ x5.toInt + 1000 from (by first | with_reducible exact q_fe b592 | (have t1 : y567.toInt ≤ x5.toInt + 1000 := b592; omega))), (show x3.toInt ≤ y569.toInt + 9 from (by have t1 : x3.toInt ≤ 9 := ob109; have t2 : 0 ≤ y569.toInt := b581; omega)), (show y569.toInt ≤ x3.toInt + 108 from (by have t1 : 0 ≤ x3.toInt := ob108; have t2 : y569.toInt ≤ 108 := b582; omega)), (show x4.toInt ≤ y569.toInt + 9 from (by have t1 : x4.toInt ≤ 9 := ob114; have t2 : 0 ≤ y569.toInt := b581; omega)), (show y569.toInt ≤ x4.toInt + 108 from (by have t1 : 0 ≤ x4.toInt := ob113; have t2 : y569.toInt ≤ 108 := b582; omega)), (show x5.toInt ≤ y569.toInt + 9 from (by first | with_reducible exact q_fe b593 | (have t1 : x5.toInt ≤ y569.toInt + 9 := b593; omega))), (show y569.toInt ≤ x5.toInt + 108 from (by first | with_reducible exact q_fe b594 | (have t1 : y569.toInt ≤ x5.toInt + 108 := b594; omega))), (show x3.toInt ≤ y570.toInt + 9 from (by have t1 : x3.toInt ≤ 9 := ob109; have t2 : 0 ≤ y570.toInt := b583; omega)), (show y570.toInt ≤ x3.toInt + 1 from (by have t1 : 0 ≤ x3.toInt := ob108; have t2 : y570.toInt ≤ 1 := b584; omega)), (show x4.toInt ≤ y570.toInt + 9 from (by have t1 : x4.toInt ≤ 9 := ob114; have t2 : 0 ≤ y570.toInt := b583; omega)), (show y570.toInt ≤ x4.toInt + 1 from (by have t1 : 0 ≤ x4.toInt := ob113; have t2 : y570.toInt ≤ 1 := b584; omega)), (show x5.toInt ≤ y570.toInt + 9 from (by first | with_reducible exact q_fe b595 | (have t1 : x5.toInt ≤ y570.toInt + 9 := b595; omega))), (show y570.toInt ≤ x5.toInt + 1 from (by first | with_reducible exact q_fe b596 | (have t1 : y570.toInt ≤ x5.toInt + 1 := b596; omega))), (show ((0 : Int32), y492, y493, y495, y496, f497, t3_0, t3_1, t4_0, t5_0, t5_1, t6_0, t7_0, t7_1, t8_0, y561, y562, f563, y566, y567, y569, y570, f571) = (F_NH_decimal_bt x2 x3 x4 x5 t0_0 t0_1 t1_0 t1_1 t2_0 t3_0 t3_1 t4_0 t5_0 t5_1 t6_0 t7_0 t7_1 t8_0 t9_0 t9_1 t10_0 t11_0 t11_1 t12_0 t12_1 t13_0 t14_0 t14_1 t15_0 t15_1 t16_0) from Eq.trans (by rw [e607, e606, e605, e604, e603, e602, e601, e600, F_NH_decimal_bt_c139_7.eq_1, if_pos c546]) hR555)⟩) d_1_11_142)
      ·
        refine lv_aload_n hx hb d_1_11_60 rfl (lv_at hl 2 rfl) ?_
        refine q_get (ci := 0) (j := 7) (v := .ref (q 30)) C0 V i_NH rfl rfl hO106 (by decide) w_431 rfl d_1_11_61 ?_
        refine lv_aload hx hb d_1_11_64 (lv_at hl 1 rfl) ?_
        refine lv_aload hx hb d_1_11_66 (lv_at hl 0 rfl) ?_
        refine lv_iload_n hx hb d_1_11_68 rfl (lv_at hl 3 rfl) ?_
        refine lv_iconst (v := 1) hx hb d_1_11_69 (by decide) ?_
        refine lv_icmp_ne (tgt := 77) hx hb d_1_11_70 (by decide) (fun c609 => ?_) (fun c609 => ?_)
        ·
          refine lv_iconst (v := 0) hx hb d_1_11_77 (by decide) ?_
          refine q_goi V (q_runV (As := [.ref (q d3), .ref (q d4), .int 0]) (rest := []) (d := 4) (mc := 0) (ms := 0) (ci := 5) C0 V rfl LV_NH_269 (X_DW_sum l D g q ws d3 108 hBd3 (Or.inr yd3) d4 108 hBd4 (Or.inr yd4) 0 (by have z0 := yd3; omega) (by have z0 := yd3; omega) (by have z0 := yd3; omega) (by have z0 := yd3; omega) (by have z0 := yd3; omega) (by have z0 := yd3; omega) (by have z0 := yd3; omega) (by have z0 := yd3; omega) (by have z0 := yd3; omega) (by have z0 := yd3; omega) (by have z0 := yd3; omega) (by have z0 := yd3; omega) (by have z0 := yd4; omega) (by have z0 := yd4; omega) (by have z0 := yd4; omega) (by have z0 := yd4; omega) (by have z0 := yd4; omega) (by have z0 := yd4; omega) (by have z0 := yd4; omega) (by have z0 := yd4; omega) (by have z0 := yd4; omega) (by have z0 := yd4; omega) (by have z0 := yd4; omega) (by have z0 := yd4; omega) hI t0_0 t0_1 hT0 t1_0 t1_1 hT1 t2_0 hT2 t5_0 t5_1 hT5 t6_0 hT6 t11_0 t11_1 hT11 t12_0 t12_1 hT12 t13_0 hT13 t14_0 t14_1 hT14 t15_0 t15_1 hT15 t16_0 hT16 ⟨(by have y0 : (108 : Int32).toInt = 108 := rfl; have y1 : (108 : Int32).toInt = 108 := rfl; have y2 : (0 : Int32).toInt = 0 := rfl; omega), (by have y0 : (108 : Int32).toInt = 108 := rfl; have y1 : (108 : Int32).toInt = 108 := rfl; have y2 : (0 : Int32).toInt = 0 := rfl; omega)⟩ _) rfl rfl hT0 rfl hl.1 rfl (Nat.le_of_ble_eq_true rfl) ⟨by decide, by decide⟩ ⟨Nat.le_of_ble_eq_true rfl, Nat.le_of_ble_eq_true rfl⟩ d_1_11_78) (fun a613 u611 H locs hp612 V => ?_)
          obtain ⟨hI, hZ9⟩ := hp612
          obtain ⟨hu643, hZ9⟩ := hZ9
          obtain ⟨y615, hZ9⟩ := hZ9
          obtain ⟨y616, hZ9⟩ := hZ9
          obtain ⟨y618, hZ9⟩ := hZ9
          obtain ⟨y619, hZ9⟩ := hZ9
          obtain ⟨f620, hZ9⟩ := hZ9
          obtain ⟨y623, hZ9⟩ := hZ9
          obtain ⟨y624, hZ9⟩ := hZ9
          obtain ⟨f625, hZ9⟩ := hZ9
          obtain ⟨hO614, hZ9⟩ := hZ9
          obtain ⟨hO617, hZ9⟩ := hZ9
          obtain ⟨hA621, hZ9⟩ := hZ9
          obtain ⟨hO622, hZ9⟩ := hZ9
          obtain ⟨hA626, hZ9⟩ := hZ9
          obtain ⟨b627, hZ9⟩ := hZ9
          obtain ⟨b628, hZ9⟩ := hZ9
          obtain ⟨b629, hZ9⟩ := hZ9
          obtain ⟨b630, hZ9⟩ := hZ9
          obtain ⟨b631, hZ9⟩ := hZ9
          obtain ⟨b632, hZ9⟩ := hZ9
          obtain ⟨b633, hZ9⟩ := hZ9
          obtain ⟨b634, hZ9⟩ := hZ9
          obtain ⟨b635, hZ9⟩ := hZ9
          obtain ⟨b636, hZ9⟩ := hZ9
          replace hZ9 := hZ9.2
          obtain ⟨b638, hZ9⟩ := hZ9
          obtain ⟨b639, hZ9⟩ := hZ9
          obtain ⟨b640, hZ9⟩ := hZ9
          obtain ⟨b641, hE642⟩ := hZ9
          replace hO614 : u611[30]? = (some (q 30, .inr (5, [.ref (q 31), .long y615, .ref (q 9), .int y616])) : Option (Nat × va_E)) := hO614
          replace hO617 : u611[10]? = (some (q 10, .inr (2, [.ref (q 11), .int y618, .int y619])) : Option (Nat × va_E)) := hO617
          replace hA621 : u611[11]? = (some (q 11, .inl (g 0, (220 : Int32).toNatClampNeg, .inl f620)) : Option (Nat × va_E)) := hA621
          replace hO622 : u611[22]? = (some (q 22, .inr (2, [.ref (q 23), .int y623, .int y624])) : Option (Nat × va_E)) := hO622
          replace hA626 : u611[23]? = (some (q 23, .inl (g 0, (220 : Int32).toNatClampNeg, .inl f625)) : Option (Nat × va_E)) := hA626
          obtain ⟨p644, e645⟩ : ∃ z, z = (F_DW_sum (108 : Int32) (108 : Int32) (0 : Int32) t0_0 t0_1 t1_0 t1_1 t2_0 t5_0 t5_1 t6_0 t11_0 t11_1 t12_0 t12_1 t13_0 t14_0 t14_1 t15_0 t15_1 t16_0) := ⟨_, rfl⟩
          have e646 : a613 = p644.1 := congrArg (fun z => z.1) (hE642.trans e645.symm)
          have e647 : y615 = p644.2.1 := congrArg (fun z => z.2.1) (hE642.trans e645.symm)
          have e648 : y616 = p644.2.2.1 := congrArg (fun z => z.2.2.1) (hE642.trans e645.symm)
          have e649 : y618 = p644.2.2.2.1 := congrArg (fun z => z.2.2.2.1) (hE642.trans e645.symm)
          have e650 : y619 = p644.2.2.2.2.1 := congrArg (fun z => z.2.2.2.2.1) (hE642.trans e645.symm)
          have e651 : f620 = p644.2.2.2.2.2.1 := congrArg (fun z => z.2.2.2.2.2.1) (hE642.trans e645.symm)
          have e652 : y623 = p644.2.2.2.2.2.2.1 := congrArg (fun z => z.2.2.2.2.2.2.1) (hE642.trans e645.symm)
          have e653 : y624 = p644.2.2.2.2.2.2.2.1 := congrArg (fun z => z.2.2.2.2.2.2.2.1) (hE642.trans e645.symm)
          have e654 : f625 = p644.2.2.2.2.2.2.2.2 := congrArg (fun z => z.2.2.2.2.2.2.2.2) (hE642.trans e645.symm)
          replace b627 : q_F (0 ≤ a613.toInt) := b627
          replace b628 : q_F (a613.toInt ≤ 1) := b628
          replace b629 : q_F (y615.toInt ≤ 10000) := b629
          replace b630 : q_F (0 ≤ y618.toInt) := b630
          replace b631 : q_F (y618.toInt ≤ 220) := b631
          replace b632 : q_F (0 ≤ y619.toInt) := b632
          replace b633 : q_F (y619.toInt ≤ 1) := b633
          replace b634 : q_F (0 ≤ y623.toInt) := b634
          replace b635 : q_F (y623.toInt ≤ 220) := b635
          replace b636 : q_F (0 ≤ y624.toInt) := b636
          replace b638 : q_F (t11_0.toInt ≤ y615.toInt) := b638
          replace b639 : q_F (t14_0.toInt ≤ y615.toInt) := b639
          replace b640 : q_F (t0_1.toInt ≤ y616.toInt) := b640
          replace b641 : q_F (y616.toInt ≤ t0_1.toInt) := b641
          replace hT3 := (hu643 _ (by decide)).trans hT3
          replace hT4 := (hu643 _ (by decide)).trans hT4
          replace hT7 := (hu643 _ (by decide)).trans hT7
          replace hT8 := (hu643 _ (by decide)).trans hT8
          replace hT9 := (hu643 _ (by decide)).trans hT9
          replace hT10 := (hu643 _ (by decide)).trans hT10
          replace hT14 := (hu643 _ (by have z0 := yd4; simp only [List.mem_cons, List.not_mem_nil, or_false, not_or]; omega)).trans hT14
          replace hT15 := (hu643 _ (by have z0 := yd4; simp only [List.mem_cons, List.not_mem_nil, or_false, not_or]; omega)).trans hT15
          replace hT16 := (hu643 _ (by have z0 := yd4; simp only [List.mem_cons, List.not_mem_nil, or_false, not_or]; omega)).trans hT16
          replace hO106 := (hu643 _ (by decide)).trans hO106
          replace hF := q_uc hF hu643 (by simp)
          have hR655 := (show F_NH_decimal_bt_c78 x2 x3 x4 x5 t0_0 t0_1 t1_0 t1_1 t2_0 t3_0 t3_1 t4_0 t5_0 t5_1 t6_0 t7_0 t7_1 t8_0 t9_0 t9_1 t10_0 t11_0 t11_1 t12_0 t12_1 t13_0 t14_0 t14_1 t15_0 t15_1 t16_0 lx71 p644 = (F_NH_decimal_bt x2 x3 x4 x5 t0_0 t0_1 t1_0 t1_1 t2_0 t3_0 t3_1 t4_0 t5_0 t5_1 t6_0 t7_0 t7_1 t8_0 t9_0 t9_1 t10_0 t11_0 t11_1 t12_0 t12_1 t13_0 t14_0 t14_1 t15_0 t15_1 t16_0) from Eq.trans (by rw [e645, F_NH_decimal_bt_J36.eq_1, if_pos c103, if_neg c117, if_neg c609]) hR92)
          have hS656 := (show True ∧ S_NH_decimal_bt_c78 x2 x3 x4 x5 t0_0 t0_1 t1_0 t1_1 t2_0 t3_0 t3_1 t4_0 t5_0 t5_1 t6_0 t7_0 t7_1 t8_0 t9_0 t9_1 t10_0 t11_0 t11_1 t12_0 t12_1 t13_0 t14_0 t14_1 t15_0 t15_1 t16_0 lx71 p644 from (by rw [e645]; have h := hS93; rw [S_NH_decimal_bt_J36.eq_1] at h; rw [if_pos c103] at h; replace h := q_s2 h; replace h := q_s2 h; replace h := q_s2 h; replace h := q_s2 h; rw [if_neg c117] at h; rw [if_neg c609] at h; with_reducible exact h))
          refine q_goxv V (q_runSX (As := [.int a613]) (rest := []) (d := 7) (mc := 1) (ms := 6) C0 V rfl LS_NH_138 (X_NH_canHave l D g q u611  a613 hlt hI  ⟨(by first | with_reducible exact q_fe b627 | (have t1 : 0 ≤ a613.toInt := b627; omega)), (by first | with_reducible exact q_fe b628 | (have t1 : a613.toInt ≤ 1 := b628; omega))⟩ _) rfl hl.1 rfl (Nat.le_of_ble_eq_true rfl) ⟨by decide, by decide⟩ ⟨Nat.le_of_ble_eq_true rfl, Nat.le_of_ble_eq_true rfl⟩ d_1_11_81) (fun qx Ex ce u660 H locs hp661 V hce hcv hcl => ?_) (fun u660 H locs hp661 V => ?_)
          ·
            obtain ⟨cx663, he664, hc665, rfl, hE662⟩ := hp661
            have c666 : ¬ (F_NH_canHave a613) = (0 : Int32) := fun z => hc665 (((hE662) : cx663 = _).trans z)
            exact q_outT hno C0 V (⟨(F_NH_canHave a613), (he664.trans (congrArg qE ((hE662) : cx663 = _))), c666, hI, hF, y615, y616, y618, y619, f620, t3_0, t3_1, t4_0, y623, y624, f625, t7_0, t7_1, t8_0, t9_0, t9_1, t10_0, t14_0, t14_1, t15_0, t15_1, t16_0, hO614, hO617, hA621, hT3, hT4, hO622, hA626, hT7, hT8, hT9, hT10, hT14, hT15, hT16, (show ((F_NH_canHave a613), y615, y616, y618, y619, f620, t3_0, t3_1, t4_0, y623, y624, f625, t7_0, t7_1, t8_0, t9_0, t9_1, t10_0, t14_0, t14_1, t15_0, t15_1, t16_0) = (F_NH_decimal_bt x2 x3 x4 x5 t0_0 t0_1 t1_0 t1_1 t2_0 t3_0 t3_1 t4_0 t5_0 t5_1 t6_0 t7_0 t7_1 t8_0 t9_0 t9_1 t10_0 t11_0 t11_1 t12_0 t12_1 t13_0 t14_0 t14_1 t15_0 t15_1 t16_0) from Eq.trans (by have c666x := c666; rw [e646] at c666x; rw [e654, e653, e652, e651, e650, e649, e648, e647, e646, F_NH_decimal_bt_c78.eq_1, if_neg c666x]) hR655)⟩) hce hcv hcl (Nat.le_of_ble_eq_true rfl) (Nat.le_of_ble_eq_true rfl)
          ·
            obtain ⟨rfl, hE667⟩ := hp661
            have c666 : (F_NH_canHave a613) = (0 : Int32) := ((hE667) : (0 : Int32) = _).symm
            refine lv_goto (tgt := 136) hx hb d_1_11_84 (by decide) ?_
            refine lv_aload_n hx hb d_1_11_136 rfl (lv_at hl 2 rfl) ?_
            refine lv_iload hx hb d_1_11_137 (lv_at hl 6 rfl) ?_
            have ob669 : True ∧ S_NH_keepDecimal x5 y615 y616 y618 y619 f620 t9_0 t9_1 t10_0 t14_0 t14_1 t15_0 t15_1 t16_0 := (by rw [e651, e650, e649, e648, e647]; have h := hS656; rw [S_NH_decimal_bt_c78.eq_1] at h; have c666x := c666; rw [e646] at c666x; rw [if_pos c666x] at h; with_reducible exact h.2.1)
            refine q_goxv V (q_runVX (As := [.int x5]) (rest := []) (d := 8) (mc := 1) (ms := 6) (ci := 0) C0 V rfl LV_NH_281 (X_NH_keepDecimal l D g q u611  x5 d4 hBd4 yd4 gd4x5 hlt hI y615 y616 hO614 y618 y619 hO617 f620 hA621 t9_0 t9_1 hT9 t10_0 hT10 t14_0 t14_1 hT14 t15_0 t15_1 hT15 t16_0 hT16 ob669 _) rfl rfl hO106 rfl hl.1 rfl (Nat.le_of_ble_eq_true rfl) ⟨by decide, by decide⟩ ⟨Nat.le_of_ble_eq_true rfl, Nat.le_of_ble_eq_true rfl⟩ d_1_11_139) (fun qx Ex ce u670 H locs hp671 V hce hcv hcl => ?_) (fun u670 H locs hp671 V => ?_)
            ·
              obtain ⟨cx686, hZ9⟩ := hp671
              obtain ⟨he687, hZ9⟩ := hZ9
              obtain ⟨hc688, hZ9⟩ := hZ9
              obtain ⟨hI, hZ9⟩ := hZ9
              obtain ⟨hu689, hZ9⟩ := hZ9
              obtain ⟨y673, hZ9⟩ := hZ9
              obtain ⟨y674, hZ9⟩ := hZ9
              obtain ⟨f675, hZ9⟩ := hZ9
              obtain ⟨y678, hZ9⟩ := hZ9
              obtain ⟨y679, hZ9⟩ := hZ9
              obtain ⟨y681, hZ9⟩ := hZ9
              obtain ⟨y682, hZ9⟩ := hZ9
              obtain ⟨f683, hZ9⟩ := hZ9
              obtain ⟨hO672, hZ9⟩ := hZ9
              obtain ⟨hA676, hZ9⟩ := hZ9
              obtain ⟨hO677, hZ9⟩ := hZ9
              obtain ⟨hO680, hZ9⟩ := hZ9
              obtain ⟨hA684, hE685⟩ := hZ9
              replace hO672 : u670[20]? = (some (q 20, .inr (2, [.ref (q 21), .int y673, .int y674])) : Option (Nat × va_E)) := hO672
              replace hA676 : u670[21]? = (some (q 21, .inl (g 0, (220 : Int32).toNatClampNeg, .inl f675)) : Option (Nat × va_E)) := hA676
              replace hO677 : u670[d4]? = (some (q d4, .inr (3, [.ref (q (d4 + 1)), .int y678, .int y679])) : Option (Nat × va_E)) := hO677
              replace hO680 : u670[d4 + 1]? = (some (q (d4 + 1), .inr (2, [.ref (q (d4 + 2)), .int y681, .int y682])) : Option (Nat × va_E)) := hO680
              replace hA684 : u670[d4 + 2]? = (some (q (d4 + 2), .inl (g 0, (108 : Int32).toNatClampNeg, .inl f683)) : Option (Nat × va_E)) := hA684
              obtain ⟨p690, e691⟩ : ∃ z, z = (F_NH_keepDecimal x5 y615 y616 y618 y619 f620 t9_0 t9_1 t10_0 t14_0 t14_1 t15_0 t15_1 t16_0) := ⟨_, rfl⟩
              have c692 : ¬ p690.1 = (0 : Int32) := fun z => hc688 (((congrArg (fun z => z.1) (hE685.trans e691.symm)) : cx686 = _).trans z)
              have e693 : y673 = p690.2.1 := congrArg (fun z => z.2.1) (hE685.trans e691.symm)
              have e694 : y674 = p690.2.2.1 := congrArg (fun z => z.2.2.1) (hE685.trans e691.symm)
              have e695 : f675 = p690.2.2.2.1 := congrArg (fun z => z.2.2.2.1) (hE685.trans e691.symm)
              have e696 : y678 = p690.2.2.2.2.1 := congrArg (fun z => z.2.2.2.2.1) (hE685.trans e691.symm)
              have e697 : y679 = p690.2.2.2.2.2.1 := congrArg (fun z => z.2.2.2.2.2.1) (hE685.trans e691.symm)
              have e698 : y681 = p690.2.2.2.2.2.2.1 := congrArg (fun z => z.2.2.2.2.2.2.1) (hE685.trans e691.symm)
              have e699 : y682 = p690.2.2.2.2.2.2.2.1 := congrArg (fun z => z.2.2.2.2.2.2.2.1) (hE685.trans e691.symm)
              have e700 : f683 = p690.2.2.2.2.2.2.2.2 := congrArg (fun z => z.2.2.2.2.2.2.2.2) (hE685.trans e691.symm)
              replace hO614 := (hu689 _ (by have z0 := yd4; simp only [List.mem_cons, List.not_mem_nil, or_false, not_or]; omega)).trans hO614
              replace hO617 := (hu689 _ (by have z0 := yd4; simp only [List.mem_cons, List.not_mem_nil, or_false, not_or]; omega)).trans hO617
              replace hA621 := (hu689 _ (by have z0 := yd4; simp only [List.mem_cons, List.not_mem_nil, or_false, not_or]; omega)).trans hA621
              replace hT3 := (hu689 _ (by have z0 := yd4; simp only [List.mem_cons, List.not_mem_nil, or_false, not_or]; omega)).trans hT3
              replace hT4 := (hu689 _ (by have z0 := yd4; simp only [List.mem_cons, List.not_mem_nil, or_false, not_or]; omega)).trans hT4
              replace hO622 := (hu689 _ (by have z0 := yd4; simp only [List.mem_cons, List.not_mem_nil, or_false, not_or]; omega)).trans hO622
              replace hA626 := (hu689 _ (by have z0 := yd4; simp only [List.mem_cons, List.not_mem_nil, or_false, not_or]; omega)).trans hA626
              replace hT7 := (hu689 _ (by have z0 := yd4; simp only [List.mem_cons, List.not_mem_nil, or_false, not_or]; omega)).trans hT7
              replace hT8 := (hu689 _ (by have z0 := yd4; simp only [List.mem_cons, List.not_mem_nil, or_false, not_or]; omega)).trans hT8
              replace hF := q_uc hF hu689 (by simp)
              have hR701 := (show F_NH_decimal_bt_c139_9 x2 x3 x4 x5 t0_0 t0_1 t1_0 t1_1 t2_0 t3_0 t3_1 t4_0 t5_0 t5_1 t6_0 t7_0 t7_1 t8_0 t9_0 t9_1 t10_0 t11_0 t11_1 t12_0 t12_1 t13_0 t14_0 t14_1 t15_0 t15_1 t16_0 lx71 p644 y615 y616 y618 y619 f620 y623 y624 f625 p690 = (F_NH_decimal_bt x2 x3 x4 x5 t0_0 t0_1 t1_0 t1_1 t2_0 t3_0 t3_1 t4_0 t5_0 t5_1 t6_0 t7_0 t7_1 t8_0 t9_0 t9_1 t10_0 t11_0 t11_1 t12_0 t12_1 t13_0 t14_0 t14_1 t15_0 t15_1 t16_0) from Eq.trans (by have c666x := c666; rw [e646] at c666x; rw [e691, e654, e653, e652, e651, e650, e649, e648, e647, F_NH_decimal_bt_c78.eq_1, if_pos c666x]) hR655)
              have hS702 := (show True ∧ S_NH_decimal_bt_c139_9 x2 x3 x4 x5 t0_0 t0_1 t1_0 t1_1 t2_0 t3_0 t3_1 t4_0 t5_0 t5_1 t6_0 t7_0 t7_1 t8_0 t9_0 t9_1 t10_0 t11_0 t11_1 t12_0 t12_1 t13_0 t14_0 t14_1 t15_0 t15_1 t16_0 lx71 p644 y615 y616 y618 y619 f620 y623 y624 f625 p690 from (by rw [e691, e654, e653, e652, e651, e650, e649, e648, e647]; have h := hS656; rw [S_NH_decimal_bt_c78.eq_1] at h; have c666x := c666; rw [e646] at c666x; rw [if_pos c666x] at h; replace h := q_s2 h; with_reducible exact h))
              exact q_outT hno C0 V (⟨p690.1, (he687.trans (congrArg qE ((congrArg (fun z => z.1) (hE685.trans e691.symm)) : cx686 = _))), c692, hI, hF, y615, y616, y618, y619, f620, t3_0, t3_1, t4_0, y623, y624, f625, t7_0, t7_1, t8_0, y673, y674, f675, y678, y679, y681, y682, f683, hO614, hO617, hA621, hT3, hT4, hO622, hA626, hT7, hT8, hO672, hA676, hO677, hO680, hA684, (show (p690.1, y615, y616, y618, y619, f620, t3_0, t3_1, t4_0, y623, y624, f625, t7_0, t7_1, t8_0, y673, y674, f675, y678, y679, y681, y682, f683) = (F_NH_decimal_bt x2 x3 x4 x5 t0_0 t0_1 t1_0 t1_1 t2_0 t3_0 t3_1 t4_0 t5_0 t5_1 t6_0 t7_0 t7_1 t8_0 t9_0 t9_1 t10_0 t11_0 t11_1 t12_0 t12_1 t13_0 t14_0 t14_1 t15_0 t15_1 t16_0) from Eq.trans (by rw [e700, e699, e698, e697, e696, e695, e694, e693, F_NH_decimal_bt_c139_9.eq_1, if_neg c692]) hR701)⟩) hce hcv hcl (Nat.le_of_ble_eq_true rfl) (Nat.le_of_ble_eq_true rfl)
            ·
              obtain ⟨hI, hZ9⟩ := hp671
              obtain ⟨hu744, hZ9⟩ := hZ9
              obtain ⟨y707, hZ9⟩ := hZ9
              obtain ⟨y708, hZ9⟩ := hZ9
              obtain ⟨f709, hZ9⟩ := hZ9
              obtain ⟨y712, hZ9⟩ := hZ9
              obtain ⟨y713, hZ9⟩ := hZ9
              obtain ⟨y715, hZ9⟩ := hZ9
              obtain ⟨y716, hZ9⟩ := hZ9
              obtain ⟨f717, hZ9⟩ := hZ9
              obtain ⟨hO706, hZ9⟩ := hZ9
              obtain ⟨hA710, hZ9⟩ := hZ9
              obtain ⟨hO711, hZ9⟩ := hZ9
              obtain ⟨hO714, hZ9⟩ := hZ9
              obtain ⟨hA718, hZ9⟩ := hZ9
              obtain ⟨b719, hZ9⟩ := hZ9
              obtain ⟨b720, hZ9⟩ := hZ9
              obtain ⟨b721, hZ9⟩ := hZ9
              obtain ⟨b722, hZ9⟩ := hZ9
              obtain ⟨b723, hZ9⟩ := hZ9
              obtain ⟨b724, hZ9⟩ := hZ9
              obtain ⟨b725, hZ9⟩ := hZ9
              obtain ⟨b726, hZ9⟩ := hZ9
              obtain ⟨b727, hZ9⟩ := hZ9
              obtain ⟨b728, hZ9⟩ := hZ9
              obtain ⟨b729, hZ9⟩ := hZ9
              obtain ⟨b730, hZ9⟩ := hZ9
              obtain ⟨b731, hZ9⟩ := hZ9
              obtain ⟨b732, hZ9⟩ := hZ9
              obtain ⟨b733, hZ9⟩ := hZ9
              obtain ⟨b734, hZ9⟩ := hZ9
              obtain ⟨b735, hZ9⟩ := hZ9
              obtain ⟨b736, hZ9⟩ := hZ9
              obtain ⟨b737, hZ9⟩ := hZ9
              obtain ⟨b738, hZ9⟩ := hZ9
              obtain ⟨b739, hZ9⟩ := hZ9
              obtain ⟨b740, hZ9⟩ := hZ9
              obtain ⟨b741, hZ9⟩ := hZ9
              obtain ⟨b742, hE743⟩ := hZ9
              replace hO706 : u670[20]? = (some (q 20, .inr (2, [.ref (q 21), .int y707, .int y708])) : Option (Nat × va_E)) := hO706
              replace hA710 : u670[21]? = (some (q 21, .inl (g 0, (220 : Int32).toNatClampNeg, .inl f709)) : Option (Nat × va_E)) := hA710
              replace hO711 : u670[d4]? = (some (q d4, .inr (3, [.ref (q (d4 + 1)), .int y712, .int y713])) : Option (Nat × va_E)) := hO711
              replace hO714 : u670[d4 + 1]? = (some (q (d4 + 1), .inr (2, [.ref (q (d4 + 2)), .int y715, .int y716])) : Option (Nat × va_E)) := hO714
              replace hA718 : u670[d4 + 2]? = (some (q (d4 + 2), .inl (g 0, (108 : Int32).toNatClampNeg, .inl f717)) : Option (Nat × va_E)) := hA718
              obtain ⟨p690, e691⟩ : ∃ z, z = (F_NH_keepDecimal x5 y615 y616 y618 y619 f620 t9_0 t9_1 t10_0 t14_0 t14_1 t15_0 t15_1 t16_0) := ⟨_, rfl⟩
              have c692 : p690.1 = (0 : Int32) := ((congrArg (fun z => z.1) (hE743.trans e691.symm)) : (0 : Int32) = _).symm
              have e746 : y707 = p690.2.1 := congrArg (fun z => z.2.1) (hE743.trans e691.symm)
              have e747 : y708 = p690.2.2.1 := congrArg (fun z => z.2.2.1) (hE743.trans e691.symm)
              have e748 : f709 = p690.2.2.2.1 := congrArg (fun z => z.2.2.2.1) (hE743.trans e691.symm)
              have e749 : y712 = p690.2.2.2.2.1 := congrArg (fun z => z.2.2.2.2.1) (hE743.trans e691.symm)
              have e750 : y713 = p690.2.2.2.2.2.1 := congrArg (fun z => z.2.2.2.2.2.1) (hE743.trans e691.symm)
              have e751 : y715 = p690.2.2.2.2.2.2.1 := congrArg (fun z => z.2.2.2.2.2.2.1) (hE743.trans e691.symm)
              have e752 : y716 = p690.2.2.2.2.2.2.2.1 := congrArg (fun z => z.2.2.2.2.2.2.2.1) (hE743.trans e691.symm)
              have e753 : f717 = p690.2.2.2.2.2.2.2.2 := congrArg (fun z => z.2.2.2.2.2.2.2.2) (hE743.trans e691.symm)
              replace b719 : q_F (0 ≤ y707.toInt) := b719
              replace b720 : q_F (y707.toInt ≤ 220) := b720
              replace b721 : q_F (0 ≤ y708.toInt) := b721
              replace b722 : q_F (y708.toInt ≤ 1) := b722
              replace b723 : q_F (0 ≤ y712.toInt + 10000) := b723
              replace b724 : q_F (y712.toInt ≤ 10000) := b724
              replace b725 : q_F (1 ≤ y713.toInt) := b725
              replace b726 : q_F (y713.toInt ≤ 1000) := b726
              replace b727 : q_F (0 ≤ y715.toInt) := b727
              replace b728 : q_F (y715.toInt ≤ 108) := b728
              replace b729 : q_F (0 ≤ y716.toInt) := b729
              replace b730 : q_F (y716.toInt ≤ 1) := b730
              replace b731 : q_F (x5.toInt ≤ y707.toInt + 9) := b731
              replace b732 : q_F (y707.toInt ≤ x5.toInt + 220) := b732
              replace b733 : q_F (x5.toInt ≤ y708.toInt + 9) := b733
              replace b734 : q_F (y708.toInt ≤ x5.toInt + 1) := b734
              replace b735 : q_F (x5.toInt ≤ y712.toInt + 10009) := b735
              replace b736 : q_F (y712.toInt ≤ x5.toInt + 10000) := b736
              replace b737 : q_F (x5.toInt ≤ y713.toInt + 8) := b737
              replace b738 : q_F (y713.toInt ≤ x5.toInt + 1000) := b738
              replace b739 : q_F (x5.toInt ≤ y715.toInt + 9) := b739
              replace b740 : q_F (y715.toInt ≤ x5.toInt + 108) := b740
              replace b741 : q_F (x5.toInt ≤ y716.toInt + 9) := b741
              replace b742 : q_F (y716.toInt ≤ x5.toInt + 1) := b742
              replace hO614 := (hu744 _ (by have z0 := yd4; simp only [List.mem_cons, List.not_mem_nil, or_false, not_or]; omega)).trans hO614
              replace hO617 := (hu744 _ (by have z0 := yd4; simp only [List.mem_cons, List.not_mem_nil, or_false, not_or]; omega)).trans hO617
              replace hA621 := (hu744 _ (by have z0 := yd4; simp only [List.mem_cons, List.not_mem_nil, or_false, not_or]; omega)).trans hA621
              replace hT3 := (hu744 _ (by have z0 := yd4; simp only [List.mem_cons, List.not_mem_nil, or_false, not_or]; omega)).trans hT3
              replace hT4 := (hu744 _ (by have z0 := yd4; simp only [List.mem_cons, List.not_mem_nil, or_false, not_or]; omega)).trans hT4
              replace hO622 := (hu744 _ (by have z0 := yd4; simp only [List.mem_cons, List.not_mem_nil, or_false, not_or]; omega)).trans hO622
              replace hA626 := (hu744 _ (by have z0 := yd4; simp only [List.mem_cons, List.not_mem_nil, or_false, not_or]; omega)).trans hA626
              replace hT7 := (hu744 _ (by have z0 := yd4; simp only [List.mem_cons, List.not_mem_nil, or_false, not_or]; omega)).trans hT7
              replace hT8 := (hu744 _ (by have z0 := yd4; simp only [List.mem_cons, List.not_mem_nil, or_false, not_or]; omega)).trans hT8
              replace hF := q_uc hF hu744 (by simp)
              have hR701 := (show F_NH_decimal_bt_c139_9 x2 x3 x4 x5 t0_0 t0_1 t1_0 t1_1 t2_0 t3_0 t3_1 t4_0 t5_0 t5_1 t6_0 t7_0 t7_1 t8_0 t9_0 t9_1 t10_0 t11_0 t11_1 t12_0 t12_1 t13_0 t14_0 t14_1 t15_0 t15_1 t16_0 lx71 p644 y615 y616 y618 y619 f620 y623 y624 f625 p690 = (F_NH_decimal_bt x2 x3 x4 x5 t0_0 t0_1 t1_0 t1_1 t2_0 t3_0 t3_1 t4_0 t5_0 t5_1 t6_0 t7_0 t7_1 t8_0 t9_0 t9_1 t10_0 t11_0 t11_1 t12_0 t12_1 t13_0 t14_0 t14_1 t15_0 t15_1 t16_0) from Eq.trans (by have c666x := c666; rw [e646] at c666x; rw [e691, e654, e653, e652, e651, e650, e649, e648, e647, F_NH_decimal_bt_c78.eq_1, if_pos c666x]) hR655)
              have hS702 := (show True ∧ S_NH_decimal_bt_c139_9 x2 x3 x4 x5 t0_0 t0_1 t1_0 t1_1 t2_0 t3_0 t3_1 t4_0 t5_0 t5_1 t6_0 t7_0 t7_1 t8_0 t9_0 t9_1 t10_0 t11_0 t11_1 t12_0 t12_1 t13_0 t14_0 t14_1 t15_0 t15_1 t16_0 lx71 p644 y615 y616 y618 y619 f620 y623 y624 f625 p690 from (by rw [e691, e654, e653, e652, e651, e650, e649, e648, e647]; have h := hS656; rw [S_NH_decimal_bt_c78.eq_1] at h; have c666x := c666; rw [e646] at c666x; rw [if_pos c666x] at h; replace h := q_s2 h; with_reducible exact h))
              exact q_retX (q_retv C0 V (⟨hI, hF, y615, y616, y618, y619, f620, t3_0, t3_1, t4_0, y623, y624, f625, t7_0, t7_1, t8_0, y707, y708, f709, y712, y713, y715, y716, f717, hO614, hO617, hA621, hT3, hT4, hO622, hA626, hT7, hT8, hO706, hA710, hO711, hO714, hA718, (show 0 ≤ y615.toInt + 20000 from (by have t1 : -10000 ≤ t11_0.toInt ∧ t11_0.toInt ≤ 10000 := btt11_0; have t2 : t11_0.toInt ≤ y615.toInt := b638; omega)), (show y615.toInt ≤ 20000 from (by first | with_reducible exact q_fe b629 | (have t1 : y615.toInt ≤ 10000 := b629; omega))), (show 0 ≤ y616.toInt from (by have t1 : 0 ≤ t0_1.toInt ∧ t0_1.toInt ≤ 1 := btt0_1; have t2 : t0_1.toInt ≤ y616.toInt := b640; omega)), (show y616.toInt ≤ 1 from (by have t1 : 0 ≤ t0_1.toInt ∧ t0_1.toInt ≤ 1 := btt0_1; have t2 : y616.toInt ≤ t0_1.toInt := b641; omega)), (show 0 ≤ y618.toInt from (by first | with_reducible exact q_fe b630 | (have t1 : 0 ≤ y618.toInt := b630; omega))), (show y618.toInt ≤ 220 from (by first | with_reducible exact q_fe b631 | (have t1 : y618.toInt ≤ 220 := b631; omega))), (show 0 ≤ y619.toInt from (by first | with_reducible exact q_fe b632 | (have t1 : 0 ≤ y619.toInt := b632; omega))), (show y619.toInt ≤ 1 from (by first | with_reducible exact q_fe b633 | (have t1 : y619.toInt ≤ 1 := b633; omega))), (show 0 ≤ t3_0.toInt from (by first | with_reducible exact (q_fe btt3_0).2 | with_reducible exact (q_fe btt3_0).1 | (have t1 : 0 ≤ t3_0.toInt ∧ t3_0.toInt ≤ 220 := btt3_0; omega))), (show t3_0.toInt ≤ 220 from (by first | with_reducible exact (q_fe btt3_0).2 | with_reducible exact (q_fe btt3_0).1 | (have t1 : 0 ≤ t3_0.toInt ∧ t3_0.toInt ≤ 220 := btt3_0; omega))), (show 0 ≤ t3_1.toInt from (by first | with_reducible exact (q_fe btt3_1).2 | with_reducible exact (q_fe btt3_1).1 | (have t1 : 0 ≤ t3_1.toInt ∧ t3_1.toInt ≤ 1 := btt3_1; omega))), (show t3_1.toInt ≤ 1 from (by first | with_reducible exact (q_fe btt3_1).2 | with_reducible exact (q_fe btt3_1).1 | (have t1 : 0 ≤ t3_1.toInt ∧ t3_1.toInt ≤ 1 := btt3_1; omega))), (show 0 ≤ y623.toInt from (by first | with_reducible exact q_fe b634 | (have t1 : 0 ≤ y623.toInt := b634; omega))), (show y623.toInt ≤ 220 from (by first | with_reducible exact q_fe b635 | (have t1 : y623.toInt ≤ 220 := b635; omega))), (show 0 ≤ y624.toInt from (by first | with_reducible exact q_fe b636 | (have t1 : 0 ≤ y624.toInt := b636; omega))), (show 0 ≤ t7_0.toInt from (by first | with_reducible exact (q_fe btt7_0).2 | with_reducible exact (q_fe btt7_0).1 | (have t1 : 0 ≤ t7_0.toInt ∧ t7_0.toInt ≤ 220 := btt7_0; omega))), (show t7_0.toInt ≤ 220 from (by first | with_reducible exact (q_fe btt7_0).2 | with_reducible exact (q_fe btt7_0).1 | (have t1 : 0 ≤ t7_0.toInt ∧ t7_0.toInt ≤ 220 := btt7_0; omega))), (show 0 ≤ t7_1.toInt from (by first | with_reducible exact (q_fe btt7_1).2 | with_reducible exact (q_fe btt7_1).1 | (have t1 : 0 ≤ t7_1.toInt ∧ t7_1.toInt ≤ 1 := btt7_1; omega))), (show t7_1.toInt ≤ 1 from (by first | with_reducible exact (q_fe btt7_1).2 | with_reducible exact (q_fe btt7_1).1 | (have t1 : 0 ≤ t7_1.toInt ∧ t7_1.toInt ≤ 1 := btt7_1; omega))), (show 0 ≤ y707.toInt from (by first | with_reducible exact q_fe b719 | (have t1 : 0 ≤ y707.toInt := b719; omega))), (show y707.toInt ≤ 220 from (by first | with_reducible exact q_fe b720 | (have t1 : y707.toInt ≤ 220 := b720; omega))), (show 0 ≤ y708.toInt from (by first | with_reducible exact q_fe b721 | (have t1 : 0 ≤ y708.toInt := b721; omega))), (show y708.toInt ≤ 1 from (by first | with_reducible exact q_fe b722 | (have t1 : y708.toInt ≤ 1 := b722; omega))), (show 0 ≤ y712.toInt + 10000 from (by first | with_reducible exact q_fe b723 | (have t1 : 0 ≤ y712.toInt + 10000 := b723; omega))), (show y712.toInt ≤ 10000 from (by first | with_reducible exact q_fe b724 | (have t1 : y712.toInt ≤ 10000 := b724; omega))), (show 1 ≤ y713.toInt from (by first | with_reducible exact q_fe b725 | (have t1 : 1 ≤ y713.toInt := b725; omega))), (show y713.toInt ≤ 1000 from (by first | with_reducible exact q_fe b726 | (have t1 : y713.toInt ≤ 1000 := b726; omega))), (show 0 ≤ y715.toInt from (by first | with_reducible exact q_fe b727 | (have t1 : 0 ≤ y715.toInt := b727; omega))), (show y715.toInt ≤ 108 from (by first | with_reducible exact q_fe b728 | (have t1 : y715.toInt ≤ 108 := b728; omega))), (show 0 ≤ y716.toInt from (by first | with_reducible exact q_fe b729 | (have t1 : 0 ≤ y716.toInt := b729; omega))), (show y716.toInt ≤ 1 from (by first | with_reducible exact q_fe b730 | (have t1 : y716.toInt ≤ 1 := b730; omega))), (show x3.toInt ≤ y615.toInt + 20009 from (by have t1 : -10000 ≤ t11_0.toInt ∧ t11_0.toInt ≤ 10000 := btt11_0; have t2 : x3.toInt ≤ 9 := ob109; have t3 : t11_0.toInt ≤ y615.toInt := b638; omega)), (show y615.toInt ≤ x3.toInt + 20000 from (by have t1 : 0 ≤ x3.toInt := ob108; have t2 : y615.toInt ≤ 10000 := b629; omega)), (show x4.toInt ≤ y615.toInt + 20009 from (by have t1 : -10000 ≤ t11_0.toInt ∧ t11_0.toInt ≤ 10000 := btt11_0; have t2 : x4.toInt ≤ 9 := ob114; have t3 : t11_0.toInt ≤ y615.toInt := b638; omega)), (show y615.toInt ≤ x4.toInt + 20000 from (by have t1 : 0 ≤ x4.toInt := ob113; have t2 : y615.toInt ≤ 10000 := b629; omega)), (show t11_0.toInt ≤ y615.toInt + 10000 from (by first | with_reducible exact q_fe b638 | (have t1 : t11_0.toInt ≤ y615.toInt := b638; omega))), (show y615.toInt ≤ t11_0.toInt + 20000 from (by have t1 : -10000 ≤ t11_0.toInt ∧ t11_0.toInt ≤ 10000 := btt11_0; have t2 : y615.toInt ≤ 10000 := b629; omega)), (show t14_0.toInt ≤ y615.toInt + 10000 from (by first | with_reducible exact q_fe b639 | (have t1 : t14_0.toInt ≤ y615.toInt := b639; omega))), (show y615.toInt ≤ t14_0.toInt + 20000 from (by have t1 : -10000 ≤ t14_0.toInt ∧ t14_0.toInt ≤ 10000 := btt14_0; have t2 : y615.toInt ≤ 10000 := b629; omega)), (show x3.toInt ≤ y616.toInt + 9 from (by have t1 : 0 ≤ t0_1.toInt ∧ t0_1.toInt ≤ 1 := btt0_1; have t2 : x3.toInt ≤ 9 := ob109; have t3 : t0_1.toInt ≤ y616.toInt := b640; omega)), (show y616.toInt ≤ x3.toInt + 1 from (by have t1 : 0 ≤ t0_1.toInt ∧ t0_1.toInt ≤ 1 := btt0_1; have t2 : 0 ≤ x3.toInt := ob108; have t3 : y616.toInt ≤ t0_1.toInt := b641; omega)), (show x4.toInt ≤ y616.toInt + 9 from (by have t1 : 0 ≤ t0_1.toInt ∧ t0_1.toInt ≤ 1 := btt0_1; have t2 : x4.toInt ≤ 9 := ob114; have t3 : t0_1.toInt ≤ y616.toInt := b640; omega)), (show y616.toInt ≤ x4.toInt + 1 from (by have t1 : 0 ≤ t0_1.toInt ∧ t0_1.toInt ≤ 1 := btt0_1; have t2 : 0 ≤ x4.toInt := ob113; have t3 : y616.toInt ≤ t0_1.toInt := b641; omega)), (show t0_1.toInt ≤ y616.toInt from (by first | with_reducible exact q_fe b640 | (have t1 : t0_1.toInt ≤ y616.toInt := b640; omega))), (show y616.toInt ≤ t0_1.toInt from (by first | with_reducible exact q_fe b641 | (have t1 : y616.toInt ≤ t0_1.toInt := b641; omega))), (show x3.toInt ≤ y618.toInt + 9 from (by have t1 : x3.toInt ≤ 9 := ob109; have t2 : 0 ≤ y618.toInt := b630; omega)), (show y618.toInt ≤ x3.toInt + 220 from (by have t1 : 0 ≤ x3.toInt := ob108; have t2 : y618.toInt ≤ 220 := b631; omega)), (show x4.toInt ≤ y618.toInt + 9 from (by have t1 : x4.toInt ≤ 9 := ob114; have t2 : 0 ≤ y618.toInt := b630; omega)), (show y618.toInt ≤ x4.toInt + 220 from (by have t1 : 0 ≤ x4.toInt := ob113; have t2 : y618.toInt ≤ 220 := b631; omega)), (show x3.toInt ≤ y619.toInt + 9 from (by have t1 : x3.toInt ≤ 9 := ob109; have t2 : 0 ≤ y619.toInt := b632; omega)), (show y619.toInt ≤ x3.toInt + 1 from (by have t1 : 0 ≤ x3.toInt := ob108; have t2 : y619.toInt ≤ 1 := b633; omega)), (show x4.toInt ≤ y619.toInt + 9 from (by have t1 : x4.toInt ≤ 9 := ob114; have t2 : 0 ≤ y619.toInt := b632; omega)), (show y619.toInt ≤ x4.toInt + 1 from (by have t1 : 0 ≤ x4.toInt := ob113; have t2 : y619.toInt ≤ 1 := b633; omega)), (show x3.toInt ≤ t3_0.toInt + 9 from (by have t1 : 0 ≤ t3_0.toInt ∧ t3_0.toInt ≤ 220 := btt3_0; have t2 : x3.toInt ≤ 9 := ob109; omega)), (show t3_0.toInt ≤ x3.toInt + 220 from (by have t1 : 0 ≤ t3_0.toInt ∧ t3_0.toInt ≤ 220 := btt3_0; have t2 : 0 ≤ x3.toInt := ob108; omega)), (show x4.toInt ≤ t3_0.toInt + 9 from (by have t1 : 0 ≤ t3_0.toInt ∧ t3_0.toInt ≤ 220 := btt3_0; have t2 : x4.toInt ≤ 9 := ob114; omega)), (show t3_0.toInt ≤ x4.toInt + 220 from (by have t1 : 0 ≤ t3_0.toInt ∧ t3_0.toInt ≤ 220 := btt3_0; have t2 : 0 ≤ x4.toInt := ob113; omega)), (show x3.toInt ≤ t3_1.toInt + 9 from (by have t1 : 0 ≤ t3_1.toInt ∧ t3_1.toInt ≤ 1 := btt3_1; have t2 : x3.toInt ≤ 9 := ob109; omega)), (show t3_1.toInt ≤ x3.toInt + 1 from (by have t1 : 0 ≤ t3_1.toInt ∧ t3_1.toInt ≤ 1 := btt3_1; have t2 : 0 ≤ x3.toInt := ob108; omega)), (show x4.toInt ≤ t3_1.toInt + 9 from (by have t1 : 0 ≤ t3_1.toInt ∧ t3_1.toInt ≤ 1 := btt3_1; have t2 : x4.toInt ≤ 9 := ob114; omega)), (show t3_1.toInt ≤ x4.toInt + 1 from (by have t1 : 0 ≤ t3_1.toInt ∧ t3_1.toInt ≤ 1 := btt3_1; have t2 : 0 ≤ x4.toInt := ob113; omega)), (show t3_1.toInt ≤ t3_1.toInt from (by omega)), (show x3.toInt ≤ y623.toInt + 9 from (by have t1 : x3.toInt ≤ 9 := ob109; have t2 : 0 ≤ y623.toInt := b634; omega)), (show y623.toInt ≤ x3.toInt + 220 from (by have t1 : 0 ≤ x3.toInt := ob108; have t2 : y623.toInt ≤ 220 := b635; omega)), (show x4.toInt ≤ y623.toInt + 9 from (by have t1 : x4.toInt ≤ 9 := ob114; have t2 : 0 ≤ y623.toInt := b634; omega)), (show y623.toInt ≤ x4.toInt + 220 from (by have t1 : 0 ≤ x4.toInt := ob113; have t2 : y623.toInt ≤ 220 := b635; omega)), (show x3.toInt ≤ y624.toInt + 9 from (by have t1 : x3.toInt ≤ 9 := ob109; have t2 : 0 ≤ y624.toInt := b636; omega)), (show x4.toInt ≤ y624.toInt + 9 from (by have t1 : x4.toInt ≤ 9 := ob114; have t2 : 0 ≤ y624.toInt := b636; omega)), (show x3.toInt ≤ t7_0.toInt + 9 from (by have t1 : 0 ≤ t7_0.toInt ∧ t7_0.toInt ≤ 220 := btt7_0; have t2 : x3.toInt ≤ 9 := ob109; omega)), (show t7_0.toInt ≤ x3.toInt + 220 from (by have t1 : 0 ≤ t7_0.toInt ∧ t7_0.toInt ≤ 220 := btt7_0; have t2 : 0 ≤ x3.toInt := ob108; omega)), (show x4.toInt ≤ t7_0.toInt + 9 from (by have t1 : 0 ≤ t7_0.toInt ∧ t7_0.toInt ≤ 220 := btt7_0; have t2 : x4.toInt ≤ 9 := ob114; omega)), (show t7_0.toInt ≤ x4.toInt + 220 from (by have t1 : 0 ≤ t7_0.toInt ∧ t7_0.toInt ≤ 220 := btt7_0; have t2 : 0 ≤ x4.toInt := ob113; omega)), (show x3.toInt ≤ t7_1.toInt + 9 from (by have t1 : 0 ≤ t7_1.toInt ∧ t7_1.toInt ≤ 1 := btt7_1; have t2 : x3.toInt ≤ 9 := ob109; omega)), (show t7_1.toInt ≤ x3.toInt + 1 from (by have t1 : 0 ≤ t7_1.toInt ∧ t7_1.toInt ≤ 1 := btt7_1; have t2 : 0 ≤ x3.toInt := ob108; omega)), (show x4.toInt ≤ t7_1.toInt + 9 from (by have t1 : 0 ≤ t7_1.toInt ∧ t7_1.toInt ≤ 1 := btt7_1; have t2 : x4.toInt ≤ 9 := ob114; omega)), (show t7_1.toInt ≤ x4.toInt + 1 from (by have t1 : 0 ≤ t7_1.toInt ∧ t7_1.toInt ≤ 1 := btt7_1; have t2 : 0 ≤ x4.toInt := ob113; omega)), (show x3.toInt ≤ y707.toInt + 9 from (by have t1 : x3.toInt ≤ 9 := ob109; have t2 : 0 ≤ y707.toInt := b719; omega)), (show y707.toInt ≤ x3.toInt + 220 from (by have t1 : 0 ≤ x3.toInt := ob108; have t2 : y707.toInt ≤ 220 := b720; omega)), (show x4.toInt ≤ y707.toInt + 9 from (by have t1 : x4.toInt ≤ 9 := ob114; have t2 : 0 ≤ y707.toInt := b719; omega)), (show y707.toInt ≤ x4.toInt + 220 from (by have t1 : 0 ≤ x4.toInt := ob113; have t2 : y707.toInt ≤ 220 := b720; omega)), (show x5.toInt ≤ y707.toInt + 9 from (by first | with_reducible exact q_fe b731 | (have t1 : x5.toInt ≤ y707.toInt + 9 := b731; omega))), (show y707.toInt ≤ x5.toInt + 220 from (by first | with_reducible exact q_fe b732 | (have t1 : y707.toInt ≤ x5.toInt + 220 := b732; omega))), (show x3.toInt ≤ y708.toInt + 9 from (by have t1 : x3.toInt ≤ 9 := ob109; have t2 : 0 ≤ y708.toInt := b721; omega)), (show y708.toInt ≤ x3.toInt + 1 from (by have t1 : 0 ≤ x3.toInt := ob108; have t2 : y708.toInt ≤ 1 := b722; omega)), (show x4.toInt ≤ y708.toInt + 9 from (by have t1 : x4.toInt ≤ 9 := ob114; have t2 : 0 ≤ y708.toInt := b721; omega)), (show y708.toInt ≤ x4.toInt + 1 from (by have t1 : 0 ≤ x4.toInt := ob113; have t2 : y708.toInt ≤ 1 := b722; omega)), (show x5.toInt ≤ y708.toInt + 9 from (by first | with_reducible exact q_fe b733 | (have t1 : x5.toInt ≤ y708.toInt + 9 := b733; omega))), (show y708.toInt ≤ x5.toInt + 1 from (by first | with_reducible exact q_fe b734 | (have t1 : y708.toInt ≤ x5.toInt + 1 := b734; omega))), (show x3.toInt ≤ y712.toInt + 10009 from (by have t1 : x3.toInt ≤ 9 := ob109; have t2 : 0 ≤ y712.toInt + 10000 := b723; omega)), (show y712.toInt ≤ x3.toInt + 10000 from (by have t1 : 0 ≤ x3.toInt := ob108; have t2 : y712.toInt ≤ 10000 := b724; omega)), (show x4.toInt ≤ y712.toInt + 10009 from (by have t1 : x4.toInt ≤ 9 := ob114; have t2 : 0 ≤ y712.toInt + 10000 := b723; omega)), (show y712.toInt ≤ x4.toInt + 10000 from (by have t1 : 0 ≤ x4.toInt := ob113; have t2 : y712.toInt ≤ 10000 := b724; omega)), (show x5.toInt ≤ y712.toInt + 10009 from (by first | with_reducible exact q_fe b735 | (have t1 : x5.toInt ≤ y712.toInt + 10009 := b735; omega))), (show y712.toInt ≤ x5.toInt + 10000 from (by first | with_reducible exact q_fe b736 | (have t1 : y712.toInt ≤ x5.toInt + 10000 := b736; omega))), (show x3.toInt ≤ y713.toInt + 8 from (by have t1 : x3.toInt ≤ 9 := ob109; have t2 : 1 ≤ y713.toInt := b725; omega)), (show y713.toInt ≤ x3.toInt + 1000 from (by have t1 : 0 ≤ x3.toInt := ob108; have t2 : y713.toInt ≤ 1000 := b726; omega)), (show x4.toInt ≤ y713.toInt + 8 from (by have t1 : x4.toInt ≤ 9 := ob114; have t2 : 1 ≤ y713.toInt := b725; omega)), (show y713.toInt ≤ x4.toInt + 1000 from (by have t1 : 0 ≤ x4.toInt := ob113; have t2 : y713.toInt ≤ 1000 := b726; omega)), (show x5.toInt ≤ y713.toInt + 8 from (by first | with_reducible exact q_fe b737 | (have t1 : x5.toInt ≤ y713.toInt + 8 := b737; omega))), (show y713.toInt ≤ x5.toInt + 1000 from (by first | with_reducible exact q_fe b738 | (have t1 : y713.toInt ≤ x5.toInt + 1000 := b738; omega))), (show x3.toInt ≤ y715.toInt + 9 from (by have t1 : x3.toInt ≤ 9 := ob109; have t2 : 0 ≤ y715.toInt := b727; omega)), (show y715.toInt ≤ x3.toInt + 108 from (by have t1 : 0 ≤ x3.toInt := ob108; have t2 : y715.toInt ≤ 108 := b728; omega)), (show x4.toInt ≤ y715.toInt + 9 from (by have t1 : x4.toInt ≤ 9 := ob114; have t2 : 0 ≤ y715.toInt := b727; omega)), (show y715.toInt ≤ x4.toInt + 108 from (by have t1 : 0 ≤ x4.toInt := ob113; have t2 : y715.toInt ≤ 108 := b728; omega)), (show x5.toInt ≤ y715.toInt + 9 from (by first | with_reducible exact q_fe b739 | (have t1 : x5.toInt ≤ y715.toInt + 9 := b739; omega))), (show y715.toInt ≤ x5.toInt + 108 from (by first | with_reducible exact q_fe b740 | (have t1 : y715.toInt ≤ x5.toInt + 108 := b740; omega))), (show x3.toInt ≤ y716.toInt + 9 from (by have t1 : x3.toInt ≤ 9 := ob109; have t2 : 0 ≤ y716.toInt := b729; omega)), (show y716.toInt ≤ x3.toInt + 1 from (by have t1 : 0 ≤ x3.toInt := ob108; have t2 : y716.toInt ≤ 1 := b730; omega)), (show x4.toInt ≤ y716.toInt + 9 from (by have t1 : x4.toInt ≤ 9 := ob114; have t2 : 0 ≤ y716.toInt := b729; omega)), (show y716.toInt ≤ x4.toInt + 1 from (by have t1 : 0 ≤ x4.toInt := ob113; have t2 : y716.toInt ≤ 1 := b730; omega)), (show x5.toInt ≤ y716.toInt + 9 from (by first | with_reducible exact q_fe b741 | (have t1 : x5.toInt ≤ y716.toInt + 9 := b741; omega))), (show y716.toInt ≤ x5.toInt + 1 from (by first | with_reducible exact q_fe b742 | (have t1 : y716.toInt ≤ x5.toInt + 1 := b742; omega))), (show ((0 : Int32), y615, y616, y618, y619, f620, t3_0, t3_1, t4_0, y623, y624, f625, t7_0, t7_1, t8_0, y707, y708, f709, y712, y713, y715, y716, f717) = (F_NH_decimal_bt x2 x3 x4 x5 t0_0 t0_1 t1_0 t1_1 t2_0 t3_0 t3_1 t4_0 t5_0 t5_1 t6_0 t7_0 t7_1 t8_0 t9_0 t9_1 t10_0 t11_0 t11_1 t12_0 t12_1 t13_0 t14_0 t14_1 t15_0 t15_1 t16_0) from Eq.trans (by rw [e753, e752, e751, e750, e749, e748, e747, e746, F_NH_decimal_bt_c139_9.eq_1, if_pos c692]) hR701)⟩) d_1_11_142)
        ·
          refine lv_iconst (v := 1) hx hb d_1_11_73 (by decide) ?_
          refine lv_goto (tgt := 78) hx hb d_1_11_74 (by decide) ?_
          refine q_goi V (q_runV (As := [.ref (q d3), .ref (q d4), .int 1]) (rest := []) (d := 4) (mc := 0) (ms := 0) (ci := 5) C0 V rfl LV_NH_269 (X_DW_sum l D g q ws d3 108 hBd3 (Or.inr yd3) d4 108 hBd4 (Or.inr yd4) 1 (by have z0 := yd3; omega) (by have z0 := yd3; omega) (by have z0 := yd3; omega) (by have z0 := yd3; omega) (by have z0 := yd3; omega) (by have z0 := yd3; omega) (by have z0 := yd3; omega) (by have z0 := yd3; omega) (by have z0 := yd3; omega) (by have z0 := yd3; omega) (by have z0 := yd3; omega) (by have z0 := yd3; omega) (by have z0 := yd4; omega) (by have z0 := yd4; omega) (by have z0 := yd4; omega) (by have z0 := yd4; omega) (by have z0 := yd4; omega) (by have z0 := yd4; omega) (by have z0 := yd4; omega) (by have z0 := yd4; omega) (by have z0 := yd4; omega) (by have z0 := yd4; omega) (by have z0 := yd4; omega) (by have z0 := yd4; omega) hI t0_0 t0_1 hT0 t1_0 t1_1 hT1 t2_0 hT2 t5_0 t5_1 hT5 t6_0 hT6 t11_0 t11_1 hT11 t12_0 t12_1 hT12 t13_0 hT13 t14_0 t14_1 hT14 t15_0 t15_1 hT15 t16_0 hT16 ⟨(by have y0 : (108 : Int32).toInt = 108 := rfl; have y1 : (108 : Int32).toInt = 108 := rfl; have y2 : (1 : Int32).toInt = 1 := rfl; omega), (by have y0 : (108 : Int32).toInt = 108 := rfl; have y1 : (108 : Int32).toInt = 108 := rfl; have y2 : (1 : Int32).toInt = 1 := rfl; omega)⟩ _) rfl rfl hT0 rfl hl.1 rfl (Nat.le_of_ble_eq_true rfl) ⟨by decide, by decide⟩ ⟨Nat.le_of_ble_eq_true rfl, Nat.le_of_ble_eq_true rfl⟩ d_1_11_78) (fun a757 u755 H locs hp756 V => ?_)
          obtain ⟨hI, hZ9⟩ := hp756
          obtain ⟨hu787, hZ9⟩ := hZ9
          obtain ⟨y759, hZ9⟩ := hZ9
          obtain ⟨y760, hZ9⟩ := hZ9
          obtain ⟨y762, hZ9⟩ := hZ9
          obtain ⟨y763, hZ9⟩ := hZ9
          obtain ⟨f764, hZ9⟩ := hZ9
          obtain ⟨y767, hZ9⟩ := hZ9
          obtain ⟨y768, hZ9⟩ := hZ9
          obtain ⟨f769, hZ9⟩ := hZ9
          obtain ⟨hO758, hZ9⟩ := hZ9
          obtain ⟨hO761, hZ9⟩ := hZ9
          obtain ⟨hA765, hZ9⟩ := hZ9
          obtain ⟨hO766, hZ9⟩ := hZ9
          obtain ⟨hA770, hZ9⟩ := hZ9
          obtain ⟨b771, hZ9⟩ := hZ9
          obtain ⟨b772, hZ9⟩ := hZ9
          obtain ⟨b773, hZ9⟩ := hZ9
          obtain ⟨b774, hZ9⟩ := hZ9
          obtain ⟨b775, hZ9⟩ := hZ9
          obtain ⟨b776, hZ9⟩ := hZ9
          obtain ⟨b777, hZ9⟩ := hZ9
          obtain ⟨b778, hZ9⟩ := hZ9
          obtain ⟨b779, hZ9⟩ := hZ9
          obtain ⟨b780, hZ9⟩ := hZ9
          replace hZ9 := hZ9.2
          obtain ⟨b782, hZ9⟩ := hZ9
          obtain ⟨b783, hZ9⟩ := hZ9
          obtain ⟨b784, hZ9⟩ := hZ9
          obtain ⟨b785, hE786⟩ := hZ9
          replace hO758 : u755[30]? = (some (q 30, .inr (5, [.ref (q 31), .long y759, .ref (q 9), .int y760])) : Option (Nat × va_E)) := hO758
          replace hO761 : u755[10]? = (some (q 10, .inr (2, [.ref (q 11), .int y762, .int y763])) : Option (Nat × va_E)) := hO761
          replace hA765 : u755[11]? = (some (q 11, .inl (g 0, (220 : Int32).toNatClampNeg, .inl f764)) : Option (Nat × va_E)) := hA765
          replace hO766 : u755[22]? = (some (q 22, .inr (2, [.ref (q 23), .int y767, .int y768])) : Option (Nat × va_E)) := hO766
          replace hA770 : u755[23]? = (some (q 23, .inl (g 0, (220 : Int32).toNatClampNeg, .inl f769)) : Option (Nat × va_E)) := hA770
          obtain ⟨p788, e789⟩ : ∃ z, z = (F_DW_sum (108 : Int32) (108 : Int32) (1 : Int32) t0_0 t0_1 t1_0 t1_1 t2_0 t5_0 t5_1 t6_0 t11_0 t11_1 t12_0 t12_1 t13_0 t14_0 t14_1 t15_0 t15_1 t16_0) := ⟨_, rfl⟩
          have e790 : a757 = p788.1 := congrArg (fun z => z.1) (hE786.trans e789.symm)
          have e791 : y759 = p788.2.1 := congrArg (fun z => z.2.1) (hE786.trans e789.symm)
          have e792 : y760 = p788.2.2.1 := congrArg (fun z => z.2.2.1) (hE786.trans e789.symm)
          have e793 : y762 = p788.2.2.2.1 := congrArg (fun z => z.2.2.2.1) (hE786.trans e789.symm)
          have e794 : y763 = p788.2.2.2.2.1 := congrArg (fun z => z.2.2.2.2.1) (hE786.trans e789.symm)
          have e795 : f764 = p788.2.2.2.2.2.1 := congrArg (fun z => z.2.2.2.2.2.1) (hE786.trans e789.symm)
          have e796 : y767 = p788.2.2.2.2.2.2.1 := congrArg (fun z => z.2.2.2.2.2.2.1) (hE786.trans e789.symm)
          have e797 : y768 = p788.2.2.2.2.2.2.2.1 := congrArg (fun z => z.2.2.2.2.2.2.2.1) (hE786.trans e789.symm)
          have e798 : f769 = p788.2.2.2.2.2.2.2.2 := congrArg (fun z => z.2.2.2.2.2.2.2.2) (hE786.trans e789.symm)
          replace b771 : q_F (0 ≤ a757.toInt) := b771
          replace b772 : q_F (a757.toInt ≤ 1) := b772
          replace b773 : q_F (y759.toInt ≤ 10000) := b773
          replace b774 : q_F (0 ≤ y762.toInt) := b774
          replace b775 : q_F (y762.toInt ≤ 220) := b775
          replace b776 : q_F (0 ≤ y763.toInt) := b776
          replace b777 : q_F (y763.toInt ≤ 1) := b777
          replace b778 : q_F (0 ≤ y767.toInt) := b778
          replace b779 : q_F (y767.toInt ≤ 220) := b779
          replace b780 : q_F (0 ≤ y768.toInt) := b780
          replace b782 : q_F (t11_0.toInt ≤ y759.toInt) := b782
          replace b783 : q_F (t14_0.toInt ≤ y759.toInt) := b783
          replace b784 : q_F (t0_1.toInt ≤ y760.toInt) := b784
          replace b785 : q_F (y760.toInt ≤ t0_1.toInt) := b785
          replace hT3 := (hu787 _ (by decide)).trans hT3
          replace hT4 := (hu787 _ (by decide)).trans hT4
          replace hT7 := (hu787 _ (by decide)).trans hT7
          replace hT8 := (hu787 _ (by decide)).trans hT8
          replace hT9 := (hu787 _ (by decide)).trans hT9
          replace hT10 := (hu787 _ (by decide)).trans hT10
          replace hT14 := (hu787 _ (by have z0 := yd4; simp only [List.mem_cons, List.not_mem_nil, or_false, not_or]; omega)).trans hT14
          replace hT15 := (hu787 _ (by have z0 := yd4; simp only [List.mem_cons, List.not_mem_nil, or_false, not_or]; omega)).trans hT15
          replace hT16 := (hu787 _ (by have z0 := yd4; simp only [List.mem_cons, List.not_mem_nil, or_false, not_or]; omega)).trans hT16
          replace hO106 := (hu787 _ (by decide)).trans hO106
          replace hF := q_uc hF hu787 (by simp)
          have hR799 := (show F_NH_decimal_bt_c78_10 x2 x3 x4 x5 t0_0 t0_1 t1_0 t1_1 t2_0 t3_0 t3_1 t4_0 t5_0 t5_1 t6_0 t7_0 t7_1 t8_0 t9_0 t9_1 t10_0 t11_0 t11_1 t12_0 t12_1 t13_0 t14_0 t14_1 t15_0 t15_1 t16_0 lx71 p788 = (F_NH_decimal_bt x2 x3 x4 x5 t0_0 t0_1 t1_0 t1_1 t2_0 t3_0 t3_1 t4_0 t5_0 t5_1 t6_0 t7_0 t7_1 t8_0 t9_0 t9_1 t10_0 t11_0 t11_1 t12_0 t12_1 t13_0 t14_0 t14_1 t15_0 t15_1 t16_0) from Eq.trans (by rw [e789, F_NH_decimal_bt_J36.eq_1, if_pos c103, if_neg c117, if_pos c609]) hR92)
          have hS800 := (show True ∧ S_NH_decimal_bt_c78_10 x2 x3 x4 x5 t0_0 t0_1 t1_0 t1_1 t2_0 t3_0 t3_1 t4_0 t5_0 t5_1 t6_0 t7_0 t7_1 t8_0 t9_0 t9_1 t10_0 t11_0 t11_1 t12_0 t12_1 t13_0 t14_0 t14_1 t15_0 t15_1 t16_0 lx71 p788 from (by rw [e789]; have h := hS93; rw [S_NH_decimal_bt_J36.eq_1] at h; rw [if_pos c103] at h; replace h := q_s2 h; replace h := q_s2 h; replace h := q_s2 h; replace h := q_s2 h; rw [if_neg c117] at h; rw [if_pos c609] at h; with_reducible exact h))
          refine q_goxv V (q_runSX (As := [.int a757]) (rest := []) (d := 7) (mc := 1) (ms := 6) C0 V rfl LS_NH_138 (X_NH_canHave l D g q u755  a757 hlt hI  ⟨(by first | with_reducible exact q_fe b771 | (have t1 : 0 ≤ a757.toInt := b771; omega)), (by first | with_reducible exact q_fe b772 | (have t1 : a757.toInt ≤ 1 := b772; omega))⟩ _) rfl hl.1 rfl (Nat.le_of_ble_eq_true rfl) ⟨by decide, by decide⟩ ⟨Nat.le_of_ble_eq_true rfl, Nat.le_of_ble_eq_true rfl⟩ d_1_11_81) (fun qx Ex ce u804 H locs hp805 V hce hcv hcl => ?_) (fun u804 H locs hp805 V => ?_)
          ·
            obtain ⟨cx807, he808, hc809, rfl, hE806⟩ := hp805
            have c810 : ¬ (F_NH_canHave a757) = (0 : Int32) := fun z => hc809 (((hE806) : cx807 = _).trans z)
            exact q_outT hno C0 V (⟨(F_NH_canHave a757), (he808.trans (congrArg qE ((hE806) : cx807 = _))), c810, hI, hF, y759, y760, y762, y763, f764, t3_0, t3_1, t4_0, y767, y768, f769, t7_0, t7_1, t8_0, t9_0, t9_1, t10_0, t14_0, t14_1, t15_0, t15_1, t16_0, hO758, hO761, hA765, hT3, hT4, hO766, hA770, hT7, hT8, hT9, hT10, hT14, hT15, hT16, (show ((F_NH_canHave a757), y759, y760, y762, y763, f764, t3_0, t3_1, t4_0, y767, y768, f769, t7_0, t7_1, t8_0, t9_0, t9_1, t10_0, t14_0, t14_1, t15_0, t15_1, t16_0) = (F_NH_decimal_bt x2 x3 x4 x5 t0_0 t0_1 t1_0 t1_1 t2_0 t3_0 t3_1 t4_0 t5_0 t5_1 t6_0 t7_0 t7_1 t8_0 t9_0 t9_1 t10_0 t11_0 t11_1 t12_0 t12_1 t13_0 t14_0 t14_1 t15_0 t15_1 t16_0) from Eq.trans (by have c810x := c810; rw [e790] at c810x; rw [e798, e797, e796, e795, e794, e793, e792, e791, e790, F_NH_decimal_bt_c78_10.eq_1, if_neg c810x]) hR799)⟩) hce hcv hcl (Nat.le_of_ble_eq_true rfl) (Nat.le_of_ble_eq_true rfl)
          ·
            obtain ⟨rfl, hE811⟩ := hp805
            have c810 : (F_NH_canHave a757) = (0 : Int32) := ((hE811) : (0 : Int32) = _).symm
            refine lv_goto (tgt := 136) hx hb d_1_11_84 (by decide) ?_
            refine lv_aload_n hx hb d_1_11_136 rfl (lv_at hl 2 rfl) ?_
            refine lv_iload hx hb d_1_11_137 (lv_at hl 6 rfl) ?_
            have ob813 : True ∧ S_NH_keepDecimal x5 y759 y760 y762 y763 f764 t9_0 t9_1 t10_0 t14_0 t14_1 t15_0 t15_1 t16_0 := (by rw [e795, e794, e793, e792, e791]; have h := hS800; rw [S_NH_decimal_bt_c78_10.eq_1] at h; have c810x := c810; rw [e790] at c810x; rw [if_pos c810x] at h; with_reducible exact h.2.1)
            refine q_goxv V (q_runVX (As := [.int x5]) (rest := []) (d := 8) (mc := 1) (ms := 6) (ci := 0) C0 V rfl LV_NH_281 (X_NH_keepDecimal l D g q u755  x5 d4 hBd4 yd4 gd4x5 hlt hI y759 y760 hO758 y762 y763 hO761 f764 hA765 t9_0 t9_1 hT9 t10_0 hT10 t14_0 t14_1 hT14 t15_0 t15_1 hT15 t16_0 hT16 ob813 _) rfl rfl hO106 rfl hl.1 rfl (Nat.le_of_ble_eq_true rfl) ⟨by decide, by decide⟩ ⟨Nat.le_of_ble_eq_true rfl, Nat.le_of_ble_eq_true rfl⟩ d_1_11_139) (fun qx Ex ce u814 H locs hp815 V hce hcv hcl => ?_) (fun u814 H locs hp815 V => ?_)
            ·
              obtain ⟨cx830, hZ9⟩ := hp815
              obtain ⟨he831, hZ9⟩ := hZ9
              obtain ⟨hc832, hZ9⟩ := hZ9
              obtain ⟨hI, hZ9⟩ := hZ9
              obtain ⟨hu833, hZ9⟩ := hZ9
              obtain ⟨y817, hZ9⟩ := hZ9
              obtain ⟨y818, hZ9⟩ := hZ9
              obtain ⟨f819, hZ9⟩ := hZ9
              obtain ⟨y822, hZ9⟩ := hZ9
              obtain ⟨y823, hZ9⟩ := hZ9
              obtain ⟨y825, hZ9⟩ := hZ9
              obtain ⟨y826, hZ9⟩ := hZ9
              obtain ⟨f827, hZ9⟩ := hZ9
              obtain ⟨hO816, hZ9⟩ := hZ9
              obtain ⟨hA820, hZ9⟩ := hZ9
              obtain ⟨hO821, hZ9⟩ := hZ9
              obtain ⟨hO824, hZ9⟩ := hZ9
              obtain ⟨hA828, hE829⟩ := hZ9
              replace hO816 : u814[20]? = (some (q 20, .inr (2, [.ref (q 21), .int y817, .int y818])) : Option (Nat × va_E)) := hO816
              replace hA820 : u814[21]? = (some (q 21, .inl (g 0, (220 : Int32).toNatClampNeg, .inl f819)) : Option (Nat × va_E)) := hA820
              replace hO821 : u814[d4]? = (some (q d4, .inr (3, [.ref (q (d4 + 1)), .int y822, .int y823])) : Option (Nat × va_E)) := hO821
              replace hO824 : u814[d4 + 1]? = (some (q (d4 + 1), .inr (2, [.ref (q (d4 + 2)), .int y825, .int y826])) : Option (Nat × va_E)) := hO824
              replace hA828 : u814[d4 + 2]? = (some (q (d4 + 2), .inl (g 0, (108 : Int32).toNatClampNeg, .inl f827)) : Option (Nat × va_E)) := hA828
              obtain ⟨p834, e835⟩ : ∃ z, z = (F_NH_keepDecimal x5 y759 y760 y762 y763 f764 t9_0 t9_1 t10_0 t14_0 t14_1 t15_0 t15_1 t16_0) := ⟨_, rfl⟩
              have c836 : ¬ p834.1 = (0 : Int32) := fun z => hc832 (((congrArg (fun z => z.1) (hE829.trans e835.symm)) : cx830 = _).trans z)
              have e837 : y817 = p834.2.1 := congrArg (fun z => z.2.1) (hE829.trans e835.symm)
              have e838 : y818 = p834.2.2.1 := congrArg (fun z => z.2.2.1) (hE829.trans e835.symm)
              have e839 : f819 = p834.2.2.2.1 := congrArg (fun z => z.2.2.2.1) (hE829.trans e835.symm)
              have e840 : y822 = p834.2.2.2.2.1 := congrArg (fun z => z.2.2.2.2.1) (hE829.trans e835.symm)
              have e841 : y823 = p834.2.2.2.2.2.1 := congrArg (fun z => z.2.2.2.2.2.1) (hE829.trans e835.symm)
              have e842 : y825 = p834.2.2.2.2.2.2.1 := congrArg (fun z => z.2.2.2.2.2.2.1) (hE829.trans e835.symm)
              have e843 : y826 = p834.2.2.2.2.2.2.2.1 := congrArg (fun z => z.2.2.2.2.2.2.2.1) (hE829.trans e835.symm)
              have e844 : f827 = p834.2.2.2.2.2.2.2.2 := congrArg (fun z => z.2.2.2.2.2.2.2.2) (hE829.trans e835.symm)
              replace hO758 := (hu833 _ (by have z0 := yd4; simp only [List.mem_cons, List.not_mem_nil, or_false, not_or]; omega)).trans hO758
              replace hO761 := (hu833 _ (by have z0 := yd4; simp only [List.mem_cons, List.not_mem_nil, or_false, not_or]; omega)).trans hO761
              replace hA765 := (hu833 _ (by have z0 := yd4; simp only [List.mem_cons, List.not_mem_nil, or_false, not_or]; omega)).trans hA765
              replace hT3 := (hu833 _ (by have z0 := yd4; simp only [List.mem_cons, List.not_mem_nil, or_false, not_or]; omega)).trans hT3
              replace hT4 := (hu833 _ (by have z0 := yd4; simp only [List.mem_cons, List.not_mem_nil, or_false, not_or]; omega)).trans hT4
              replace hO766 := (hu833 _ (by have z0 := yd4; simp only [List.mem_cons, List.not_mem_nil, or_false, not_or]; omega)).trans hO766
              replace hA770 := (hu833 _ (by have z0 := yd4; simp only [List.mem_cons, List.not_mem_nil, or_false, not_or]; omega)).trans hA770
              replace hT7 := (hu833 _ (by have z0 := yd4; simp only [List.mem_cons, List.not_mem_nil, or_false, not_or]; omega)).trans hT7
              replace hT8 := (hu833 _ (by have z0 := yd4; simp only [List.mem_cons, List.not_mem_nil, or_false, not_or]; omega)).trans hT8
              replace hF := q_uc hF hu833 (by simp)
              have hR845 := (show F_NH_decimal_bt_c139_11 x2 x3 x4 x5 t0_0 t0_1 t1_0 t1_1 t2_0 t3_0 t3_1 t4_0 t5_0 t5_1 t6_0 t7_0 t7_1 t8_0 t9_0 t9_1 t10_0 t11_0 t11_1 t12_0 t12_1 t13_0 t14_0 t14_1 t15_0 t15_1 t16_0 lx71 p788 y759 y760 y762 y763 f764 y767 y768 f769 p834 = (F_NH_decimal_bt x2 x3 x4 x5 t0_0 t0_1 t1_0 t1_1 t2_0 t3_0 t3_1 t4_0 t5_0 t5_1 t6_0 t7_0 t7_1 t8_0 t9_0 t9_1 t10_0 t11_0 t11_1 t12_0 t12_1 t13_0 t14_0 t14_1 t15_0 t15_1 t16_0) from Eq.trans (by have c810x := c810; rw [e790] at c810x; rw [e835, e798, e797, e796, e795, e794, e793, e792, e791, F_NH_decimal_bt_c78_10.eq_1, if_pos c810x]) hR799)
              have hS846 := (show True ∧ S_NH_decimal_bt_c139_11 x2 x3 x4 x5 t0_0 t0_1 t1_0 t1_1 t2_0 t3_0 t3_1 t4_0 t5_0 t5_1 t6_0 t7_0 t7_1 t8_0 t9_0 t9_1 t10_0 t11_0 t11_1 t12_0 t12_1 t13_0 t14_0 t14_1 t15_0 t15_1 t16_0 lx71 p788 y759 y760 y762 y763 f764 y767 y768 f769 p834 from (by rw [e835, e798, e797, e796, e795, e794, e793, e792, e791]; have h := hS800; rw [S_NH_decimal_bt_c78_10.eq_1] at h; have c810x := c810; rw [e790] at c810x; rw [if_pos c810x] at h; replace h := q_s2 h; with_reducible exact h))
              exact q_outT hno C0 V (⟨p834.1, (he831.trans (congrArg qE ((congrArg (fun z => z.1) (hE829.trans e835.symm)) : cx830 = _))), c836, hI, hF, y759, y760, y762, y763, f764, t3_0, t3_1, t4_0, y767, y768, f769, t7_0, t7_1, t8_0, y817, y818, f819, y822, y823, y825, y826, f827, hO758, hO761, hA765, hT3, hT4, hO766, hA770, hT7, hT8, hO816, hA820, hO821, hO824, hA828, (show (p834.1, y759, y760, y762, y763, f764, t3_0, t3_1, t4_0, y767, y768, f769, t7_0, t7_1, t8_0, y817, y818, f819, y822, y823, y825, y826, f827) = (F_NH_decimal_bt x2 x3 x4 x5 t0_0 t0_1 t1_0 t1_1 t2_0 t3_0 t3_1 t4_0 t5_0 t5_1 t6_0 t7_0 t7_1 t8_0 t9_0 t9_1 t10_0 t11_0 t11_1 t12_0 t12_1 t13_0 t14_0 t14_1 t15_0 t15_1 t16_0) from Eq.trans (by rw [e844, e843, e842, e841, e840, e839, e838, e837, F_NH_decimal_bt_c139_11.eq_1, if_neg c836]) hR845)⟩) hce hcv hcl (Nat.le_of_ble_eq_true rfl) (Nat.le_of_ble_eq_true rfl)
            ·
              obtain ⟨hI, hZ9⟩ := hp815
              obtain ⟨hu888, hZ9⟩ := hZ9
              obtain ⟨y851, hZ9⟩ := hZ9
              obtain ⟨y852, hZ9⟩ := hZ9
              obtain ⟨f853, hZ9⟩ := hZ9
              obtain ⟨y856, hZ9⟩ := hZ9
              obtain ⟨y857, hZ9⟩ := hZ9
              obtain ⟨y859, hZ9⟩ := hZ9
              obtain ⟨y860, hZ9⟩ := hZ9
              obtain ⟨f861, hZ9⟩ := hZ9
              obtain ⟨hO850, hZ9⟩ := hZ9
              obtain ⟨hA854, hZ9⟩ := hZ9
              obtain ⟨hO855, hZ9⟩ := hZ9
              obtain ⟨hO858, hZ9⟩ := hZ9
              obtain ⟨hA862, hZ9⟩ := hZ9
              obtain ⟨b863, hZ9⟩ := hZ9
              obtain ⟨b864, hZ9⟩ := hZ9
              obtain ⟨b865, hZ9⟩ := hZ9
              obtain ⟨b866, hZ9⟩ := hZ9
              obtain ⟨b867, hZ9⟩ := hZ9
              obtain ⟨b868, hZ9⟩ := hZ9
              obtain ⟨b869, hZ9⟩ := hZ9
              obtain ⟨b870, hZ9⟩ := hZ9
              obtain ⟨b871, hZ9⟩ := hZ9
              obtain ⟨b872, hZ9⟩ := hZ9
              obtain ⟨b873, hZ9⟩ := hZ9
              obtain ⟨b874, hZ9⟩ := hZ9
              obtain ⟨b875, hZ9⟩ := hZ9
              obtain ⟨b876, hZ9⟩ := hZ9
              obtain ⟨b877, hZ9⟩ := hZ9
              obtain ⟨b878, hZ9⟩ := hZ9
              obtain ⟨b879, hZ9⟩ := hZ9
              obtain ⟨b880, hZ9⟩ := hZ9
              obtain ⟨b881, hZ9⟩ := hZ9
              obtain ⟨b882, hZ9⟩ := hZ9
              obtain ⟨b883, hZ9⟩ := hZ9
              obtain ⟨b884, hZ9⟩ := hZ9
              obtain ⟨b885, hZ9⟩ := hZ9
              obtain ⟨b886, hE887⟩ := hZ9
              replace hO850 : u814[20]? = (some (q 20, .inr (2, [.ref (q 21), .int y851, .int y852])) : Option (Nat × va_E)) := hO850
              replace hA854 : u814[21]? = (some (q 21, .inl (g 0, (220 : Int32).toNatClampNeg, .inl f853)) : Option (Nat × va_E)) := hA854
              replace hO855 : u814[d4]? = (some (q d4, .inr (3, [.ref (q (d4 + 1)), .int y856, .int y857])) : Option (Nat × va_E)) := hO855
              replace hO858 : u814[d4 + 1]? = (some (q (d4 + 1), .inr (2, [.ref (q (d4 + 2)), .int y859, .int y860])) : Option (Nat × va_E)) := hO858
              replace hA862 : u814[d4 + 2]? = (some (q (d4 + 2), .inl (g 0, (108 : Int32).toNatClampNeg, .inl f861)) : Option (Nat × va_E)) := hA862
              obtain ⟨p834, e835⟩ : ∃ z, z = (F_NH_keepDecimal x5 y759 y760 y762 y763 f764 t9_0 t9_1 t10_0 t14_0 t14_1 t15_0 t15_1 t16_0) := ⟨_, rfl⟩
              have c836 : p834.1 = (0 : Int32) := ((congrArg (fun z => z.1) (hE887.trans e835.symm)) : (0 : Int32) = _).symm
              have e890 : y851 = p834.2.1 := congrArg (fun z => z.2.1) (hE887.trans e835.symm)
              have e891 : y852 = p834.2.2.1 := congrArg (fun z => z.2.2.1) (hE887.trans e835.symm)
              have e892 : f853 = p834.2.2.2.1 := congrArg (fun z => z.2.2.2.1) (hE887.trans e835.symm)
              have e893 : y856 = p834.2.2.2.2.1 := congrArg (fun z => z.2.2.2.2.1) (hE887.trans e835.symm)
              have e894 : y857 = p834.2.2.2.2.2.1 := congrArg (fun z => z.2.2.2.2.2.1) (hE887.trans e835.symm)
              have e895 : y859 = p834.2.2.2.2.2.2.1 := congrArg (fun z => z.2.2.2.2.2.2.1) (hE887.trans e835.symm)
              have e896 : y860 = p834.2.2.2.2.2.2.2.1 := congrArg (fun z => z.2.2.2.2.2.2.2.1) (hE887.trans e835.symm)
              have e897 : f861 = p834.2.2.2.2.2.2.2.2 := congrArg (fun z => z.2.2.2.2.2.2.2.2) (hE887.trans e835.symm)
              replace b863 : q_F (0 ≤ y851.toInt) := b863
              replace b864 : q_F (y851.toInt ≤ 220) := b864
              replace b865 : q_F (0 ≤ y852.toInt) := b865
              replace b866 : q_F (y852.toInt ≤ 1) := b866
              replace b867 : q_F (0 ≤ y856.toInt + 10000) := b867
              replace b868 : q_F (y856.toInt ≤ 10000) := b868
              replace b869 : q_F (1 ≤ y857.toInt) := b869
              replace b870 : q_F (y857.toInt ≤ 1000) := b870
              replace b871 : q_F (0 ≤ y859.toInt) := b871
              replace b872 : q_F (y859.toInt ≤ 108) := b872
              replace b873 : q_F (0 ≤ y860.toInt) := b873
              replace b874 : q_F (y860.toInt ≤ 1) := b874
              replace b875 : q_F (x5.toInt ≤ y851.toInt + 9) := b875
              replace b876 : q_F (y851.toInt ≤ x5.toInt + 220) := b876
              replace b877 : q_F (x5.toInt ≤ y852.toInt + 9) := b877
              replace b878 : q_F (y852.toInt ≤ x5.toInt + 1) := b878
              replace b879 : q_F (x5.toInt ≤ y856.toInt + 10009) := b879
              replace b880 : q_F (y856.toInt ≤ x5.toInt + 10000) := b880
              replace b881 : q_F (x5.toInt ≤ y857.toInt + 8) := b881
              replace b882 : q_F (y857.toInt ≤ x5.toInt + 1000) := b882
              replace b883 : q_F (x5.toInt ≤ y859.toInt + 9) := b883
              replace b884 : q_F (y859.toInt ≤ x5.toInt + 108) := b884
              replace b885 : q_F (x5.toInt ≤ y860.toInt + 9) := b885
              replace b886 : q_F (y860.toInt ≤ x5.toInt + 1) := b886
              replace hO758 := (hu888 _ (by have z0 := yd4; simp only [List.mem_cons, List.not_mem_nil, or_false, not_or]; omega)).trans hO758
              replace hO761 := (hu888 _ (by have z0 := yd4; simp only [List.mem_cons, List.not_mem_nil, or_false, not_or]; omega)).trans hO761
              replace hA765 := (hu888 _ (by have z0 := yd4; simp only [List.mem_cons, List.not_mem_nil, or_false, not_or]; omega)).trans hA765
              replace hT3 := (hu888 _ (by have z0 := yd4; simp only [List.mem_cons, List.not_mem_nil, or_false, not_or]; omega)).trans hT3
              replace hT4 := (hu888 _ (by have z0 := yd4; simp only [List.mem_cons, List.not_mem_nil, or_false, not_or]; omega)).trans hT4
              replace hO766 := (hu888 _ (by have z0 := yd4; simp only [List.mem_cons, List.not_mem_nil, or_false, not_or]; omega)).trans hO766
              replace hA770 := (hu888 _ (by have z0 := yd4; simp only [List.mem_cons, List.not_mem_nil, or_false, not_or]; omega)).trans hA770
              replace hT7 := (hu888 _ (by have z0 := yd4; simp only [List.mem_cons, List.not_mem_nil, or_false, not_or]; omega)).trans hT7
              replace hT8 := (hu888 _ (by have z0 := yd4; simp only [List.mem_cons, List.not_mem_nil, or_false, not_or]; omega)).trans hT8
              replace hF := q_uc hF hu888 (by simp)
              have hR845 := (show F_NH_decimal_bt_c139_11 x2 x3 x4 x5 t0_0 t0_1 t1_0 t1_1 t2_0 t3_0 t3_1 t4_0 t5_0 t5_1 t6_0 t7_0 t7_1 t8_0 t9_0 t9_1 t10_0 t11_0 t11_1 t12_0 t12_1 t13_0 t14_0 t14_1 t15_0 t15_1 t16_0 lx71 p788 y759 y760 y762 y763 f764 y767 y768 f769 p834 = (F_NH_decimal_bt x2 x3 x4 x5 t0_0 t0_1 t1_0 t1_1 t2_0 t3_0 t3_1 t4_0 t5_0 t5_1 t6_0 t7_0 t7_1 t8_0 t9_0 t9_1 t10_0 t11_0 t11_1 t12_0 t12_1 t13_0 t14_0 t14_1 t15_0 t15_1 t16_0) from Eq.trans (by have c810x := c810; rw [e790] at c810x; rw [e835, e798, e797, e796, e795, e794, e793, e792, e791, F_NH_decimal_bt_c78_10.eq_1, if_pos c810x]) hR799)
              have hS846 := (show True ∧ S_NH_decimal_bt_c139_11 x2 x3 x4 x5 t0_0 t0_1 t1_0 t1_1 t2_0 t3_0 t3_1 t4_0 t5_0 t5_1 t6_0 t7_0 t7_1 t8_0 t9_0 t9_1 t10_0 t11_0 t11_1 t12_0 t12_1 t13_0 t14_0 t14_1 t15_0 t15_1 t16_0 lx71 p788 y759 y760 y762 y763 f764 y767 y768 f769 p834 from (by rw [e835, e798, e797, e796, e795, e794, e793, e792, e791]; have h := hS800; rw [S_NH_decimal_bt_c78_10.eq_1] at h; have c810x := c810; rw [e790] at c810x; rw [if_pos c810x] at h; replace h := q_s2 h; with_reducible exact h))
              exact q_retX (q_retv C0 V (⟨hI, hF, y759, y760, y762, y763, f764, t3_0, t3_1, t4_0, y767, y768, f769, t7_0, t7_1, t8_0, y851, y852, f853, y856, y857, y859, y860, f861, hO758, hO761, hA765, hT3, hT4, hO766, hA770, hT7, hT8, hO850, hA854, hO855, hO858, hA862, (show 0 ≤ y759.toInt + 20000 from (by have t1 : -10000 ≤ t11_0.toInt ∧ t11_0.toInt ≤ 10000 := btt11_0; have t2 : t11_0.toInt ≤ y759.toInt := b782; omega)), (show y759.toInt ≤ 20000 from (by first | with_reducible exact q_fe b773 | (have t1 : y759.toInt ≤ 10000 := b773; omega))), (show 0 ≤ y760.toInt from (by have t1 : 0 ≤ t0_1.toInt ∧ t0_1.toInt ≤ 1 := btt0_1; have t2 : t0_1.toInt ≤ y760.toInt := b784; omega)), (show y760.toInt ≤ 1 from (by have t1 : 0 ≤ t0_1.toInt ∧ t0_1.toInt ≤ 1 := btt0_1; have t2 : y760.toInt ≤ t0_1.toInt := b785; omega)), (show 0 ≤ y762.toInt from (by first | with_reducible exact q_fe b774 | (have t1 : 0 ≤ y762.toInt := b774; omega))), (show y762.toInt ≤ 220 from (by first | with_reducible exact q_fe b775 | (have t1 : y762.toInt ≤ 220 := b775; omega))), (show 0 ≤ y763.toInt from (by first | with_reducible exact q_fe b776 | (have t1 : 0 ≤ y763.toInt := b776; omega))), (show y763.toInt ≤ 1 from (by first | with_reducible exact q_fe b777 | (have t1 : y763.toInt ≤ 1 := b777; omega))), (show 0 ≤ t3_0.toInt from (by first | with_reducible exact (q_fe btt3_0).2 | with_reducible exact (q_fe btt3_0).1 | (have t1 : 0 ≤ t3_0.toInt ∧ t3_0.toInt ≤ 220 := btt3_0; omega))), (show t3_0.toInt ≤ 220 from (by first | with_reducible exact (q_fe btt3_0).2 | with_reducible exact (q_fe btt3_0).1 | (have t1 : 0 ≤ t3_0.toInt ∧ t3_0.toInt ≤ 220 := btt3_0; omega))), (show 0 ≤ t3_1.toInt from (by first | with_reducible exact (q_fe btt3_1).2 | with_reducible exact (q_fe btt3_1).1 | (have t1 : 0 ≤ t3_1.toInt ∧ t3_1.toInt ≤ 1 := btt3_1; omega))), (show t3_1.toInt ≤ 1 from (by first | with_reducible exact (q_fe btt3_1).2 | with_reducible exact (q_fe btt3_1).1 | (have t1 : 0 ≤ t3_1.toInt ∧ t3_1.toInt ≤ 1 := btt3_1; omega))), (show 0 ≤ y767.toInt from (by first | with_reducible exact q_fe b778 | (have t1 : 0 ≤ y767.toInt := b778; omega))), (show y767.toInt ≤ 220 from (by first | with_reducible exact q_fe b779 | (have t1 : y767.toInt ≤ 220 := b779; omega))), (show 0 ≤ y768.toInt from (by first | with_reducible exact q_fe b780 | (have t1 : 0 ≤ y768.toInt := b780; omega))), (show 0 ≤ t7_0.toInt from (by first | with_reducible exact (q_fe btt7_0).2 | with_reducible exact (q_fe btt7_0).1 | (have t1 : 0 ≤ t7_0.toInt ∧ t7_0.toInt ≤ 220 := btt7_0; omega))), (show t7_0.toInt ≤ 220 from (by first | with_reducible exact (q_fe btt7_0).2 | with_reducible exact (q_fe btt7_0).1 | (have t1 : 0 ≤ t7_0.toInt ∧ t7_0.toInt ≤ 220 := btt7_0; omega))), (show 0 ≤ t7_1.toInt from (by first | with_reducible exact (q_fe btt7_1).2 | with_reducible exact (q_fe btt7_1).1 | (have t1 : 0 ≤ t7_1.toInt ∧ t7_1.toInt ≤ 1 := btt7_1; omega))), (show t7_1.toInt ≤ 1 from (by first | with_reducible exact (q_fe btt7_1).2 | with_reducible exact (q_fe btt7_1).1 | (have t1 : 0 ≤ t7_1.toInt ∧ t7_1.toInt ≤ 1 := btt7_1; omega))), (show 0 ≤ y851.toInt from (by first | with_reducible exact q_fe b863 | (have t1 : 0 ≤ y851.toInt := b863; omega))), (show y851.toInt ≤ 220 from (by first | with_reducible exact q_fe b864 | (have t1 : y851.toInt ≤ 220 := b864; omega))), (show 0 ≤ y852.toInt from (by first | with_reducible exact q_fe b865 | (have t1 : 0 ≤ y852.toInt := b865; omega))), (show y852.toInt ≤ 1 from (by first | with_reducible exact q_fe b866 | (have t1 : y852.toInt ≤ 1 := b866; omega))), (show 0 ≤ y856.toInt + 10000 from (by first | with_reducible exact q_fe b867 | (have t1 : 0 ≤ y856.toInt + 10000 := b867; omega))), (show y856.toInt ≤ 10000 from (by first | with_reducible exact q_fe b868 | (have t1 : y856.toInt ≤ 10000 := b868; omega))), (show 1 ≤ y857.toInt from (by first | with_reducible exact q_fe b869 | (have t1 : 1 ≤ y857.toInt := b869; omega))), (show y857.toInt ≤ 1000 from (by first | with_reducible exact q_fe b870 | (have t1 : y857.toInt ≤ 1000 := b870; omega))), (show 0 ≤ y859.toInt from (by first | with_reducible exact q_fe b871 | (have t1 : 0 ≤ y859.toInt := b871; omega))), (show y859.toInt ≤ 108 from (by first | with_reducible exact q_fe b872 | (have t1 : y859.toInt ≤ 108 := b872; omega))), (show 0 ≤ y860.toInt from (by first | with_reducible exact q_fe b873 | (have t1 : 0 ≤ y860.toInt := b873; omega))), (show y860.toInt ≤ 1 from (by first | with_reducible exact q_fe b874 | (have t1 : y860.toInt ≤ 1 := b874; omega))), (show x3.toInt ≤ y759.toInt + 20009 from (by have t1 : -10000 ≤ t11_0.toInt ∧ t11_0.toInt ≤ 10000 := btt11_0; have t2 : x3.toInt ≤ 9 := ob109; have t3 : t11_0.toInt ≤ y759.toInt := b782; omega)), (show y759.toInt ≤ x3.toInt + 20000 from (by have t1 : 0 ≤ x3.toInt := ob108; have t2 : y759.toInt ≤ 10000 := b773; omega)), (show x4.toInt ≤ y759.toInt + 20009 from (by have t1 : -10000 ≤ t11_0.toInt ∧ t11_0.toInt ≤ 10000 := btt11_0; have t2 : x4.toInt ≤ 9 := ob114; have t3 : t11_0.toInt ≤ y759.toInt := b782; omega)), (show y759.toInt ≤ x4.toInt + 20000 from (by have t1 : 0 ≤ x4.toInt := ob113; have t2 : y759.toInt ≤ 10000 := b773; omega)), (show t11_0.toInt ≤ y759.toInt + 10000 from (by first | with_reducible exact q_fe b782 | (have t1 : t11_0.toInt ≤ y759.toInt := b782; omega))), (show y759.toInt ≤ t11_0.toInt + 20000 from (by have t1 : -10000 ≤ t11_0.toInt ∧ t11_0.toInt ≤ 10000 := btt11_0; have t2 : y759.toInt ≤ 10000 := b773; omega)), (show t14_0.toInt ≤ y759.toInt + 10000 from (by first | with_reducible exact q_fe b783 | (have t1 : t14_0.toInt ≤ y759.toInt := b783; omega))), (show y759.toInt ≤ t14_0.toInt + 20000 from (by have t1 : -10000 ≤ t14_0.toInt ∧ t14_0.toInt ≤ 10000 := btt14_0; have t2 : y759.toInt ≤ 10000 := b773; omega)), (show x3.toInt ≤ y760.toInt + 9 from (by have t1 : 0 ≤ t0_1.toInt ∧ t0_1.toInt ≤ 1 := btt0_1; have t2 : x3.toInt ≤ 9 := ob109; have t3 : t0_1.toInt ≤ y760.toInt := b784; omega)), (show y760.toInt ≤ x3.toInt + 1 from (by have t1 : 0 ≤ t0_1.toInt ∧ t0_1.toInt ≤ 1 := btt0_1; have t2 : 0 ≤ x3.toInt := ob108; have t3 : y760.toInt ≤ t0_1.toInt := b785; omega)), (show x4.toInt ≤ y760.toInt + 9 from (by have t1 : 0 ≤ t0_1.toInt ∧ t0_1.toInt ≤ 1 := btt0_1; have t2 : x4.toInt ≤ 9 := ob114; have t3 : t0_1.toInt ≤ y760.toInt := b784; omega)), (show y760.toInt ≤ x4.toInt + 1 from (by have t1 : 0 ≤ t0_1.toInt ∧ t0_1.toInt ≤ 1 := btt0_1; have t2 : 0 ≤ x4.toInt := ob113; have t3 : y760.toInt ≤ t0_1.toInt := b785; omega)), (show t0_1.toInt ≤ y760.toInt from (by first | with_reducible exact q_fe b784 | (have t1 : t0_1.toInt ≤ y760.toInt := b784; omega))), (show y760.toInt ≤ t0_1.toInt from (by first | with_reducible exact q_fe b785 | (have t1 : y760.toInt ≤ t0_1.toInt := b785; omega))), (show x3.toInt ≤ y762.toInt + 9 from (by have t1 : x3.toInt ≤ 9 := ob109; have t2 : 0 ≤ y762.toInt := b774; omega)), (show y762.toInt ≤ x3.toInt + 220 from (by have t1 : 0 ≤ x3.toInt := ob108; have t2 : y762.toInt ≤ 220 := b775; omega)), (show x4.toInt ≤ y762.toInt + 9 from (by have t1 : x4.toInt ≤ 9 := ob114; have t2 : 0 ≤ y762.toInt := b774; omega)), (show y762.toInt ≤ x4.toInt + 220 from (by have t1 : 0 ≤ x4.toInt := ob113; have t2 : y762.toInt ≤ 220 := b775; omega)), (show x3.toInt ≤ y763.toInt + 9 from (by have t1 : x3.toInt ≤ 9 := ob109; have t2 : 0 ≤ y763.toInt := b776; omega)), (show y763.toInt ≤ x3.toInt + 1 from (by have t1 : 0 ≤ x3.toInt := ob108; have t2 : y763.toInt ≤ 1 := b777; omega)), (show x4.toInt ≤ y763.toInt + 9 from (by have t1 : x4.toInt ≤ 9 := ob114; have t2 : 0 ≤ y763.toInt := b776; omega)), (show y763.toInt ≤ x4.toInt + 1 from (by have t1 : 0 ≤ x4.toInt := ob113; have t2 : y763.toInt ≤ 1 := b777; omega)), (show x3.toInt ≤ t3_0.toInt + 9 from (by have t1 : 0 ≤ t3_0.toInt ∧ t3_0.toInt ≤ 220 := btt3_0; have t2 : x3.toInt ≤ 9 := ob109; omega)), (show t3_0.toInt ≤ x3.toInt + 220 from (by have t1 : 0 ≤ t3_0.toInt ∧ t3_0.toInt ≤ 220 := btt3_0; have t2 : 0 ≤ x3.toInt := ob108; omega)), (show x4.toInt ≤ t3_0.toInt + 9 from (by have t1 : 0 ≤ t3_0.toInt ∧ t3_0.toInt ≤ 220 := btt3_0; have t2 : x4.toInt ≤ 9 := ob114; omega)), (show t3_0.toInt ≤ x4.toInt + 220 from (by have t1 : 0 ≤ t3_0.toInt ∧ t3_0.toInt ≤ 220 := btt3_0; have t2 : 0 ≤ x4.toInt := ob113; omega)), (show x3.toInt ≤ t3_1.toInt + 9 from (by have t1 : 0 ≤ t3_1.toInt ∧ t3_1.toInt ≤ 1 := btt3_1; have t2 : x3.toInt ≤ 9 := ob109; omega)), (show t3_1.toInt ≤ x3.toInt + 1 from (by have t1 : 0 ≤ t3_1.toInt ∧ t3_1.toInt ≤ 1 := btt3_1; have t2 : 0 ≤ x3.toInt := ob108; omega)), (show x4.toInt ≤ t3_1.toInt + 9 from (by have t1 : 0 ≤ t3_1.toInt ∧ t3_1.toInt ≤ 1 := btt3_1; have t2 : x4.toInt ≤ 9 := ob114; omega)), (show t3_1.toInt ≤ x4.toInt + 1 from (by have t1 : 0 ≤ t3_1.toInt ∧ t3_1.toInt ≤ 1 := btt3_1; have t2 : 0 ≤ x4.toInt := ob113; omega)), (show t3_1.toInt ≤ t3_1.toInt from (by omega)), (show x3.toInt ≤ y767.toInt + 9 from (by have t1 : x3.toInt ≤ 9 := ob109; have t2 : 0 ≤ y767.toInt := b778; omega)), (show y767.toInt ≤ x3.toInt + 220 from (by have t1 : 0 ≤ x3.toInt := ob108; have t2 : y767.toInt ≤ 220 := b779; omega)), (show x4.toInt ≤ y767.toInt + 9 from (by have t1 : x4.toInt ≤ 9 := ob114; have t2 : 0 ≤ y767.toInt := b778; omega)), (show y767.toInt ≤ x4.toInt + 220 from (by have t1 : 0 ≤ x4.toInt := ob113; have t2 : y767.toInt ≤ 220 := b779; omega)), (show x3.toInt ≤ y768.toInt + 9 from (by have t1 : x3.toInt ≤ 9 := ob109; have t2 : 0 ≤ y768.toInt := b780; omega)), (show x4.toInt ≤ y768.toInt + 9 from (by have t1 : x4.toInt ≤ 9 := ob114; have t2 : 0 ≤ y768.toInt := b780; omega)), (show x3.toInt ≤ t7_0.toInt + 9 from (by have t1 : 0 ≤ t7_0.toInt ∧ t7_0.toInt ≤ 220 := btt7_0; have t2 : x3.toInt ≤ 9 := ob109; omega)), (show t7_0.toInt ≤ x3.toInt + 220 from (by have t1 : 0 ≤ t7_0.toInt ∧ t7_0.toInt ≤ 220 := btt7_0; have t2 : 0 ≤ x3.toInt := ob108; omega)), (show x4.toInt ≤ t7_0.toInt + 9 from (by have t1 : 0 ≤ t7_0.toInt ∧ t7_0.toInt ≤ 220 := btt7_0; have t2 : x4.toInt ≤ 9 := ob114; omega)), (show t7_0.toInt ≤ x4.toInt + 220 from (by have t1 : 0 ≤ t7_0.toInt ∧ t7_0.toInt ≤ 220 := btt7_0; have t2 : 0 ≤ x4.toInt := ob113; omega)), (show x3.toInt ≤ t7_1.toInt + 9 from (by have t1 : 0 ≤ t7_1.toInt ∧ t7_1.toInt ≤ 1 := btt7_1; have t2 : x3.toInt ≤ 9 := ob109; omega)), (show t7_1.toInt ≤ x3.toInt + 1 from (by have t1 : 0 ≤ t7_1.toInt ∧ t7_1.toInt ≤ 1 := btt7_1; have t2 : 0 ≤ x3.toInt := ob108; omega)), (show x4.toInt ≤ t7_1.toInt + 9 from (by have t1 : 0 ≤ t7_1.toInt ∧ t7_1.toInt ≤ 1 := btt7_1; have t2 : x4.toInt ≤ 9 := ob114; omega)), (show t7_1.toInt ≤ x4.toInt + 1 from (by have t1 : 0 ≤ t7_1.toInt ∧ t7_1.toInt ≤ 1 := btt7_1; have t2 : 0 ≤ x4.toInt := ob113; omega)), (show x3.toInt ≤ y851.toInt + 9 from (by have t1 : x3.toInt ≤ 9 := ob109; have t2 : 0 ≤ y851.toInt := b863; omega)), (show y851.toInt ≤ x3.toInt + 220 from (by have t1 : 0 ≤ x3.toInt := ob108; have t2 : y851.toInt ≤ 220 := b864; omega)), (show x4.toInt ≤ y851.toInt + 9 from (by have t1 : x4.toInt ≤ 9 := ob114; have t2 : 0 ≤ y851.toInt := b863; omega)), (show y851.toInt ≤ x4.toInt + 220 from (by have t1 : 0 ≤ x4.toInt := ob113; have t2 : y851.toInt ≤ 220 := b864; omega)), (show x5.toInt ≤ y851.toInt + 9 from (by first | with_reducible exact q_fe b875 | (have t1 : x5.toInt ≤ y851.toInt + 9 := b875; omega))), (show y851.toInt ≤ x5.toInt + 220 from (by first | with_reducible exact q_fe b876 | (have t1 : y851.toInt ≤ x5.toInt + 220 := b876; omega))), (show x3.toInt ≤ y852.toInt + 9 from (by have t1 : x3.toInt ≤ 9 := ob109; have t2 : 0 ≤ y852.toInt := b865; omega)), (show y852.toInt ≤ x3.toInt + 1 from (by have t1 : 0 ≤ x3.toInt := ob108; have t2 : y852.toInt ≤ 1 := b866; omega)), (show x4.toInt ≤ y852.toInt + 9 from (by have t1 : x4.toInt ≤ 9 := ob114; have t2 : 0 ≤ y852.toInt := b865; omega)), (show y852.toInt ≤ x4.toInt + 1 from (by have t1 : 0 ≤ x4.toInt := ob113; have t2 : y852.toInt ≤ 1 := b866; omega)), (show x5.toInt ≤ y852.toInt + 9 from (by first | with_reducible exact q_fe b877 | (have t1 : x5.toInt ≤ y852.toInt + 9 := b877; omega))), (show y852.toInt ≤ x5.toInt + 1 from (by first | with_reducible exact q_fe b878 | (have t1 : y852.toInt ≤ x5.toInt + 1 := b878; omega))), (show x3.toInt ≤ y856.toInt + 10009 from (by have t1 : x3.toInt ≤ 9 := ob109; have t2 : 0 ≤ y856.toInt + 10000 := b867; omega)), (show y856.toInt ≤ x3.toInt + 10000 from (by have t1 : 0 ≤ x3.toInt := ob108; have t2 : y856.toInt ≤ 10000 := b868; omega)), (show x4.toInt ≤ y856.toInt + 10009 from (by have t1 : x4.toInt ≤ 9 := ob114; have t2 : 0 ≤ y856.toInt + 10000 := b867; omega)), (show y856.toInt ≤ x4.toInt + 10000 from (by have t1 : 0 ≤ x4.toInt := ob113; have t2 : y856.toInt ≤ 10000 := b868; omega)), (show x5.toInt ≤ y856.toInt + 10009 from (by first | with_reducible exact q_fe b879 | (have t1 : x5.toInt ≤ y856.toInt + 10009 := b879; omega))), (show y856.toInt ≤ x5.toInt + 10000 from (by first | with_reducible exact q_fe b880 | (have t1 : y856.toInt ≤ x5.toInt + 10000 := b880; omega))), (show x3.toInt ≤ y857.toInt + 8 from (by have t1 : x3.toInt ≤ 9 := ob109; have t2 : 1 ≤ y857.toInt := b869; omega)), (show y857.toInt ≤ x3.toInt + 1000 from (by have t1 : 0 ≤ x3.toInt := ob108; have t2 : y857.toInt ≤ 1000 := b870; omega)), (show x4.toInt ≤ y857.toInt + 8 from (by have t1 : x4.toInt ≤ 9 := ob114; have t2 : 1 ≤ y857.toInt := b869; omega)), (show y857.toInt ≤ x4.toInt + 1000 from (by have t1 : 0 ≤ x4.toInt := ob113; have t2 : y857.toInt ≤ 1000 := b870; omega)), (show x5.toInt ≤ y857.toInt + 8 from (by first | with_reducible exact q_fe b881 | (have t1 : x5.toInt ≤ y857.toInt + 8 := b881; omega))), (show y857.toInt ≤ x5.toInt + 1000 from (by first | with_reducible exact q_fe b882 | (have t1 : y857.toInt ≤ x5.toInt + 1000 := b882; omega))), (show x3.toInt ≤ y859.toInt + 9 from (by have t1 : x3.toInt ≤ 9 := ob109; have t2 : 0 ≤ y859.toInt := b871; omega)), (show y859.toInt ≤ x3.toInt + 108 from (by have t1 : 0 ≤ x3.toInt := ob108; have t2 : y859.toInt ≤ 108 := b872; omega)), (show x4.toInt ≤ y859.toInt + 9 from (by have t1 : x4.toInt ≤ 9 := ob114; have t2 : 0 ≤ y859.toInt := b871; omega)), (show y859.toInt ≤ x4.toInt + 108 from (by have t1 : 0 ≤ x4.toInt := ob113; have t2 : y859.toInt ≤ 108 := b872; omega)), (show x5.toInt ≤ y859.toInt + 9 from (by first | with_reducible exact q_fe b883 | (have t1 : x5.toInt ≤ y859.toInt + 9 := b883; omega))), (show y859.toInt ≤ x5.toInt + 108 from (by first | with_reducible exact q_fe b884 | (have t1 : y859.toInt ≤ x5.toInt + 108 := b884; omega))), (show x3.toInt ≤ y860.toInt + 9 from (by have t1 : x3.toInt ≤ 9 := ob109; have t2 : 0 ≤ y860.toInt := b873; omega)), (show y860.toInt ≤ x3.toInt + 1 from (by have t1 : 0 ≤ x3.toInt := ob108; have t2 : y860.toInt ≤ 1 := b874; omega)), (show x4.toInt ≤ y860.toInt + 9 from (by have t1 : x4.toInt ≤ 9 := ob114; have t2 : 0 ≤ y860.toInt := b873; omega)), (show y860.toInt ≤ x4.toInt + 1 from (by have t1 : 0 ≤ x4.toInt := ob113; have t2 : y860.toInt ≤ 1 := b874; omega)), (show x5.toInt ≤ y860.toInt + 9 from (by first | with_reducible exact q_fe b885 | (have t1 : x5.toInt ≤ y860.toInt + 9 := b885; omega))), (show y860.toInt ≤ x5.toInt + 1 from (by first | with_reducible exact q_fe b886 | (have t1 : y860.toInt ≤ x5.toInt + 1 := b886; omega))), (show ((0 : Int32), y759, y760, y762, y763, f764, t3_0, t3_1, t4_0, y767, y768, f769, t7_0, t7_1, t8_0, y851, y852, f853, y856, y857, y859, y860, f861) = (F_NH_decimal_bt x2 x3 x4 x5 t0_0 t0_1 t1_0 t1_1 t2_0 t3_0 t3_1 t4_0 t5_0 t5_1 t6_0 t7_0 t7_1 t8_0 t9_0 t9_1 t10_0 t11_0 t11_1 t12_0 t12_1 t13_0 t14_0 t14_1 t15_0 t15_1 t16_0) from Eq.trans (by rw [e897, e896, e895, e894, e893, e892, e891, e890, F_NH_decimal_bt_c139_11.eq_1, if_pos c836]) hR845)⟩) d_1_11_142)
  ·
    intro J89
    refine q_join (X := Unit) (fun z H locs ls _ => q_Wd D g (va_A ws sz) s ws H locs ∧ lv_has ls 7 [(0, .ref (q 0)), (1, .int x2), (2, .int x3), (3, .int x4), (4, .int x5)] ∧ F_NH_decimal_bt_J35 x2 x3 x4 x5 t0_0 t0_1 t1_0 t1_1 t2_0 t3_0 t3_1 t4_0 t5_0 t5_1 t6_0 t7_0 t7_1 t8_0 t9_0 t9_1 t10_0 t11_0 t11_1 t12_0 t12_1 t13_0 t14_0 t14_1 t15_0 t15_1 t16_0 = (F_NH_decimal_bt x2 x3 x4 x5 t0_0 t0_1 t1_0 t1_1 t2_0 t3_0 t3_1 t4_0 t5_0 t5_1 t6_0 t7_0 t7_1 t8_0 t9_0 t9_1 t10_0 t11_0 t11_1 t12_0 t12_1 t13_0 t14_0 t14_1 t15_0 t15_1 t16_0) ∧ True ∧ S_NH_decimal_bt_J35 x2 x3 x4 x5 t0_0 t0_1 t1_0 t1_1 t2_0 t3_0 t3_1 t4_0 t5_0 t5_1 t6_0 t7_0 t7_1 t8_0 t9_0 t9_1 t10_0 t11_0 t11_1 t12_0 t12_1 t13_0 t14_0 t14_1 t15_0 t15_1 t16_0) (fun z => []) 35 0 0 ?_ ?_
    ·
      rintro _ H locs ls _ ⟨V, hl, hR916, hS917⟩
      replace hl : lv_has ls 7 [(0, .ref (q 0)), (1, .int x2), (2, .int x3), (3, .int x4), (4, .int x5)] := hl
      refine lv_iconst (v := 0) hx hb d_1_11_35 (by decide) ?_
      exact J89 ((0 : Int32)) _ _ _ ws ⟨(show q_F (0 ≤ 0) from (show 0 ≤ 0 from by omega)), (show q_F (0 ≤ 1) from (show 0 ≤ 1 from by omega)), V, q_lw hl (q_lw1 0 rfl (q_lw1 1 rfl (q_lw1 2 rfl (q_lw1 3 rfl (q_lw1 4 rfl q_lw0))))), (show F_NH_decimal_bt_J36 x2 x3 x4 x5 t0_0 t0_1 t1_0 t1_1 t2_0 t3_0 t3_1 t4_0 t5_0 t5_1 t6_0 t7_0 t7_1 t8_0 t9_0 t9_1 t10_0 t11_0 t11_1 t12_0 t12_1 t13_0 t14_0 t14_1 t15_0 t15_1 t16_0 0 = (F_NH_decimal_bt x2 x3 x4 x5 t0_0 t0_1 t1_0 t1_1 t2_0 t3_0 t3_1 t4_0 t5_0 t5_1 t6_0 t7_0 t7_1 t8_0 t9_0 t9_1 t10_0 t11_0 t11_1 t12_0 t12_1 t13_0 t14_0 t14_1 t15_0 t15_1 t16_0) from Eq.trans (by rw [F_NH_decimal_bt_J35.eq_1]) hR916), (show True ∧ S_NH_decimal_bt_J36 x2 x3 x4 x5 t0_0 t0_1 t1_0 t1_1 t2_0 t3_0 t3_1 t4_0 t5_0 t5_1 t6_0 t7_0 t7_1 t8_0 t9_0 t9_1 t10_0 t11_0 t11_1 t12_0 t12_1 t13_0 t14_0 t14_1 t15_0 t15_1 t16_0 0 from (by have h := hS917; rw [S_NH_decimal_bt_J35.eq_1] at h; with_reducible exact h))⟩
    ·
      intro J915
      refine lv_if_lt (tgt := 35) hx hb d_1_11_1 (by decide) (fun c921 => ?_) (fun c921 => ?_)
      ·
        exact J915 (()) _ _ _ ws ⟨V, q_lw hl (q_lw1 0 rfl (q_lw1 1 rfl (q_lw1 2 rfl (q_lw1 3 rfl (q_lw1 4 rfl q_lw0))))), (show F_NH_decimal_bt_J35 x2 x3 x4 x5 t0_0 t0_1 t1_0 t1_1 t2_0 t3_0 t3_1 t4_0 t5_0 t5_1 t6_0 t7_0 t7_1 t8_0 t9_0 t9_1 t10_0 t11_0 t11_1 t12_0 t12_1 t13_0 t14_0 t14_1 t15_0 t15_1 t16_0 = (F_NH_decimal_bt x2 x3 x4 x5 t0_0 t0_1 t1_0 t1_1 t2_0 t3_0 t3_1 t4_0 t5_0 t5_1 t6_0 t7_0 t7_1 t8_0 t9_0 t9_1 t10_0 t11_0 t11_1 t12_0 t12_1 t13_0 t14_0 t14_1 t15_0 t15_1 t16_0) from (by rw [F_NH_decimal_bt.eq_1, if_pos c921])), (show True ∧ S_NH_decimal_bt_J35 x2 x3 x4 x5 t0_0 t0_1 t1_0 t1_1 t2_0 t3_0 t3_1 t4_0 t5_0 t5_1 t6_0 t7_0 t7_1 t8_0 t9_0 t9_1 t10_0 t11_0 t11_1 t12_0 t12_1 t13_0 t14_0 t14_1 t15_0 t15_1 t16_0 from (by have h := hS; rw [S_NH_decimal_bt.eq_1] at h; rw [if_pos c921] at h; with_reducible exact h))⟩
      ·
        refine lv_iload_n hx hb d_1_11_4 rfl (lv_at hl 1 rfl) ?_
        refine lv_iconst (v := 3) hx hb d_1_11_5 (by decide) ?_
        refine lv_icmp_gt (tgt := 35) hx hb d_1_11_6 (by decide) (fun c924 => ?_) (fun c924 => ?_)
        ·
          exact J915 (()) _ _ _ ws ⟨V, q_lw hl (q_lw1 0 rfl (q_lw1 1 rfl (q_lw1 2 rfl (q_lw1 3 rfl (q_lw1 4 rfl q_lw0))))), (show F_NH_decimal_bt_J35 x2 x3 x4 x5 t0_0 t0_1 t1_0 t1_1 t2_0 t3_0 t3_1 t4_0 t5_0 t5_1 t6_0 t7_0 t7_1 t8_0 t9_0 t9_1 t10_0 t11_0 t11_1 t12_0 t12_1 t13_0 t14_0 t14_1 t15_0 t15_1 t16_0 = (F_NH_decimal_bt x2 x3 x4 x5 t0_0 t0_1 t1_0 t1_1 t2_0 t3_0 t3_1 t4_0 t5_0 t5_1 t6_0 t7_0 t7_1 t8_0 t9_0 t9_1 t10_0 t11_0 t11_1 t12_0 t12_1 t13_0 t14_0 t14_1 t15_0 t15_1 t16_0) from (by rw [F_NH_decimal_bt.eq_1, if_neg c921, if_pos c924])), (show True ∧ S_NH_decimal_bt_J35 x2 x3 x4 x5 t0_0 t0_1 t1_0 t1_1 t2_0 t3_0 t3_1 t4_0 t5_0 t5_1 t6_0 t7_0 t7_1 t8_0 t9_0 t9_1 t10_0 t11_0 t11_1 t12_0 t12_1 t13_0 t14_0 t14_1 t15_0 t15_1 t16_0 from (by have h := hS; rw [S_NH_decimal_bt.eq_1] at h; rw [if_neg c921] at h; rw [if_pos c924] at h; with_reducible exact h))⟩
        ·
          refine lv_iload_n hx hb d_1_11_9 rfl (lv_at hl 2 rfl) ?_
          refine q_goi V (q_runS (As := [.int x3]) (rest := []) (d := 1) (mc := 0) (ms := 0) C0 V rfl LS_NH_212 (X_NH_isRegister l D g q ws  x3 hI   _) rfl hl.1 rfl (Nat.le_of_ble_eq_true rfl) ⟨by decide, by decide⟩ ⟨Nat.le_of_ble_eq_true rfl, Nat.le_of_ble_eq_true rfl⟩ d_1_11_10) (fun a929 u927 H locs hp928 V => ?_)
          obtain ⟨rfl, b930, b931, hE932⟩ := hp928
          have e933 : a929 = (F_NH_isRegister x3) := hE932
          clear b930
          clear b931
          refine lv_if_eq (tgt := 35) hx hb d_1_11_13 (by decide) (fun c934 => ?_) (fun c934 => ?_)
          ·
            exact J915 (()) _ _ _ ws ⟨V, q_lw hl (q_lw1 0 rfl (q_lw1 1 rfl (q_lw1 2 rfl (q_lw1 3 rfl (q_lw1 4 rfl q_lw0))))), (show F_NH_decimal_bt_J35 x2 x3 x4 x5 t0_0 t0_1 t1_0 t1_1 t2_0 t3_0 t3_1 t4_0 t5_0 t5_1 t6_0 t7_0 t7_1 t8_0 t9_0 t9_1 t10_0 t11_0 t11_1 t12_0 t12_1 t13_0 t14_0 t14_1 t15_0 t15_1 t16_0 = (F_NH_decimal_bt x2 x3 x4 x5 t0_0 t0_1 t1_0 t1_1 t2_0 t3_0 t3_1 t4_0 t5_0 t5_1 t6_0 t7_0 t7_1 t8_0 t9_0 t9_1 t10_0 t11_0 t11_1 t12_0 t12_1 t13_0 t14_0 t14_1 t15_0 t15_1 t16_0) from (by have c934x := c934; rw [e933] at c934x; rw [F_NH_decimal_bt.eq_1, if_neg c921, if_neg c924, if_pos c934x])), (show True ∧ S_NH_decimal_bt_J35 x2 x3 x4 x5 t0_0 t0_1 t1_0 t1_1 t2_0 t3_0 t3_1 t4_0 t5_0 t5_1 t6_0 t7_0 t7_1 t8_0 t9_0 t9_1 t10_0 t11_0 t11_1 t12_0 t12_1 t13_0 t14_0 t14_1 t15_0 t15_1 t16_0 from (by have h := hS; rw [S_NH_decimal_bt.eq_1] at h; rw [if_neg c921] at h; rw [if_neg c924] at h; have c934x := c934; rw [e933] at c934x; rw [if_pos c934x] at h; with_reducible exact h))⟩
          ·
            refine lv_iload_n hx hb d_1_11_16 rfl (lv_at hl 3 rfl) ?_
            refine q_goi V (q_runS (As := [.int x4]) (rest := []) (d := 1) (mc := 0) (ms := 0) C0 V rfl LS_NH_212 (X_NH_isRegister l D g q ws  x4 hI   _) rfl hl.1 rfl (Nat.le_of_ble_eq_true rfl) ⟨by decide, by decide⟩ ⟨Nat.le_of_ble_eq_true rfl, Nat.le_of_ble_eq_true rfl⟩ d_1_11_17) (fun a939 u937 H locs hp938 V => ?_)
            obtain ⟨rfl, b940, b941, hE942⟩ := hp938
            have e943 : a939 = (F_NH_isRegister x4) := hE942
            clear b940
            clear b941
            refine lv_if_eq (tgt := 35) hx hb d_1_11_20 (by decide) (fun c944 => ?_) (fun c944 => ?_)
            ·
              exact J915 (()) _ _ _ ws ⟨V, q_lw hl (q_lw1 0 rfl (q_lw1 1 rfl (q_lw1 2 rfl (q_lw1 3 rfl (q_lw1 4 rfl q_lw0))))), (show F_NH_decimal_bt_J35 x2 x3 x4 x5 t0_0 t0_1 t1_0 t1_1 t2_0 t3_0 t3_1 t4_0 t5_0 t5_1 t6_0 t7_0 t7_1 t8_0 t9_0 t9_1 t10_0 t11_0 t11_1 t12_0 t12_1 t13_0 t14_0 t14_1 t15_0 t15_1 t16_0 = (F_NH_decimal_bt x2 x3 x4 x5 t0_0 t0_1 t1_0 t1_1 t2_0 t3_0 t3_1 t4_0 t5_0 t5_1 t6_0 t7_0 t7_1 t8_0 t9_0 t9_1 t10_0 t11_0 t11_1 t12_0 t12_1 t13_0 t14_0 t14_1 t15_0 t15_1 t16_0) from (by have c934x := c934; rw [e933] at c934x; have c944x := c944; rw [e943] at c944x; rw [F_NH_decimal_bt.eq_1, if_neg c921, if_neg c924, if_neg c934x, if_pos c944x])), (show True ∧ S_NH_decimal_bt_J35 x2 x3 x4 x5 t0_0 t0_1 t1_0 t1_1 t2_0 t3_0 t3_1 t4_0 t5_0 t5_1 t6_0 t7_0 t7_1 t8_0 t9_0 t9_1 t10_0 t11_0 t11_1 t12_0 t12_1 t13_0 t14_0 t14_1 t15_0 t15_1 t16_0 from (by have h := hS; rw [S_NH_decimal_bt.eq_1] at h; rw [if_neg c921] at h; rw [if_neg c924] at h; have c934x := c934; rw [e933] at c934x; rw [if_neg c934x] at h; have c944x := c944; rw [e943] at c944x; rw [if_pos c944x] at h; with_reducible exact h))⟩
            ·
              refine lv_iload hx hb d_1_11_23 (lv_at hl 4 rfl) ?_
              refine q_goi V (q_runS (As := [.int x5]) (rest := []) (d := 1) (mc := 0) (ms := 0) C0 V rfl LS_NH_212 (X_NH_isRegister l D g q ws  x5 hI   _) rfl hl.1 rfl (Nat.le_of_ble_eq_true rfl) ⟨by decide, by decide⟩ ⟨Nat.le_of_ble_eq_true rfl, Nat.le_of_ble_eq_true rfl⟩ d_1_11_25) (fun a949 u947 H locs hp948 V => ?_)
              obtain ⟨rfl, b950, b951, hE952⟩ := hp948
              have e953 : a949 = (F_NH_isRegister x5) := hE952
              clear b950
              clear b951
              refine lv_if_eq (tgt := 35) hx hb d_1_11_28 (by decide) (fun c954 => ?_) (fun c954 => ?_)
              ·
                exact J915 (()) _ _ _ ws ⟨V, q_lw hl (q_lw1 0 rfl (q_lw1 1 rfl (q_lw1 2 rfl (q_lw1 3 rfl (q_lw1 4 rfl q_lw0))))), (show F_NH_decimal_bt_J35 x2 x3 x4 x5 t0_0 t0_1 t1_0 t1_1 t2_0 t3_0 t3_1 t4_0 t5_0 t5_1 t6_0 t7_0 t7_1 t8_0 t9_0 t9_1 t10_0 t11_0 t11_1 t12_0 t12_1 t13_0 t14_0 t14_1 t15_0 t15_1 t16_0 = (F_NH_decimal_bt x2 x3 x4 x5 t0_0 t0_1 t1_0 t1_1 t2_0 t3_0 t3_1 t4_0 t5_0 t5_1 t6_0 t7_0 t7_1 t8_0 t9_0 t9_1 t10_0 t11_0 t11_1 t12_0 t12_1 t13_0 t14_0 t14_1 t15_0 t15_1 t16_0) from (by have c934x := c934; rw [e933] at c934x; have c944x := c944; rw [e943] at c944x; have c954x := c954; rw [e953] at c954x; rw [F_NH_decimal_bt.eq_1, if_neg c921, if_neg c924, if_neg c934x, if_neg c944x, if_pos c954x])), (show True ∧ S_NH_decimal_bt_J35 x2 x3 x4 x5 t0_0 t0_1 t1_0 t1_1 t2_0 t3_0 t3_1 t4_0 t5_0 t5_1 t6_0 t7_0 t7_1 t8_0 t9_0 t9_1 t10_0 t11_0 t11_1 t12_0 t12_1 t13_0 t14_0 t14_1 t15_0 t15_1 t16_0 from (by have h := hS; rw [S_NH_decimal_bt.eq_1] at h; rw [if_neg c921] at h; rw [if_neg c924] at h; have c934x := c934; rw [e933] at c934x; rw [if_neg c934x] at h; have c944x := c944; rw [e943] at c944x; rw [if_neg c944x] at h; have c954x := c954; rw [e953] at c954x; rw [if_pos c954x] at h; with_reducible exact h))⟩
              ·
                refine lv_iconst (v := 1) hx hb d_1_11_31 (by decide) ?_
                refine lv_goto (tgt := 36) hx hb d_1_11_32 (by decide) ?_
                exact J89 ((1 : Int32)) _ _ _ ws ⟨(show q_F (0 ≤ 1) from (show 0 ≤ 1 from by omega)), (show q_F (1 ≤ 1) from (show 1 ≤ 1 from by omega)), V, q_lw hl (q_lw1 0 rfl (q_lw1 1 rfl (q_lw1 2 rfl (q_lw1 3 rfl (q_lw1 4 rfl q_lw0))))), (show F_NH_decimal_bt_J36 x2 x3 x4 x5 t0_0 t0_1 t1_0 t1_1 t2_0 t3_0 t3_1 t4_0 t5_0 t5_1 t6_0 t7_0 t7_1 t8_0 t9_0 t9_1 t10_0 t11_0 t11_1 t12_0 t12_1 t13_0 t14_0 t14_1 t15_0 t15_1 t16_0 1 = (F_NH_decimal_bt x2 x3 x4 x5 t0_0 t0_1 t1_0 t1_1 t2_0 t3_0 t3_1 t4_0 t5_0 t5_1 t6_0 t7_0 t7_1 t8_0 t9_0 t9_1 t10_0 t11_0 t11_1 t12_0 t12_1 t13_0 t14_0 t14_1 t15_0 t15_1 t16_0) from (by have c934x := c934; rw [e933] at c934x; have c944x := c944; rw [e943] at c944x; have c954x := c954; rw [e953] at c954x; rw [F_NH_decimal_bt.eq_1, if_neg c921, if_neg c924, if_neg c934x, if_neg c944x, if_neg c954x])), (show True ∧ S_NH_decimal_bt_J36 x2 x3 x4 x5 t0_0 t0_1 t1_0 t1_1 t2_0 t3_0 t3_1 t4_0 t5_0 t5_1 t6_0 t7_0 t7_1 t8_0 t9_0 t9_1 t10_0 t11_0 t11_1 t12_0 t12_1 t13_0 t14_0 t14_1 t15_0 t15_1 t16_0 1 from (by have h := hS; rw [S_NH_decimal_bt.eq_1] at h; rw [if_neg c921] at h; rw [if_neg c924] at h; have c934x := c934; rw [e933] at c934x; rw [if_neg c934x] at h; have c944x := c944; rw [e943] at c944x; rw [if_neg c944x] at h; have c954x := c954; rw [e953] at c954x; rw [if_neg c954x] at h; with_reducible exact h))⟩

