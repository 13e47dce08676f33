/-! NumberHouse, exactly: h.decimal_ab -/
def F_NH_decimal_ab_c139 (x2 : Int32) (x3 : Int32) (x4 : Int32) (x5 : Int32) (t0_0 : Int64) (t0_1 : Int32) (t1_0 : Int32) (t1_1 : Int32) (t2_0 : (Nat → Int32)) (t3_0 : Int32) (t3_1 : Int32) (t4_0 : (Nat → Int32)) (t5_0 : Int32) (t5_1 : Int32) (t6_0 : (Nat → Int32)) (t7_0 : Int32) (t7_1 : Int32) (t8_0 : (Nat → Int32)) (t9_0 : Int32) (t9_1 : Int32) (t10_0 : (Nat → Int32)) (t11_0 : Int32) (t11_1 : Int32) (t12_0 : Int32) (t12_1 : Int32) (t13_0 : (Nat → Int32)) (t14_0 : Int32) (t14_1 : Int32) (t15_0 : Int32) (t15_1 : Int32) (t16_0 : (Nat → Int32)) (lx71 : Int32) (p171 : (Int64 × Int32 × Int32 × Int32 × (Nat → Int32) × Int32 × Int32 × (Nat → Int32) × Int32 × Int32 × (Nat → Int32))) (y136 : Int64) (y137 : Int32) (y139 : Int32) (y140 : Int32) (f141 : (Nat → Int32)) (y144 : Int32) (y145 : Int32) (f146 : (Nat → Int32)) (y149 : Int32) (y150 : Int32) (f151 : (Nat → Int32)) (p210 : (Int32 × Int32 × Int32 × (Nat → Int32) × Int32 × Int32 × Int32 × Int32 × (Nat → Int32))) : Int32 × Int64 × Int32 × Int32 × Int32 × (Nat → Int32) × Int32 × Int32 × (Nat → Int32) × Int32 × Int32 × (Nat → Int32) × Int32 × Int32 × (Nat → Int32) × Int32 × Int32 × Int32 × Int32 × (Nat → Int32) := if p210.1 = (0 : Int32) then (((0 : Int32), y136, y137, y139, y140, f141, y144, y145, f146, y149, y150, f151, (p210.2.1 : Int32), (p210.2.2.1 : Int32), (p210.2.2.2.1 : (Nat → Int32)), (p210.2.2.2.2.1 : Int32), (p210.2.2.2.2.2.1 : Int32), (p210.2.2.2.2.2.2.1 : Int32), (p210.2.2.2.2.2.2.2.1 : Int32), (p210.2.2.2.2.2.2.2.2 : (Nat → Int32)))) else ((p210.1, y136, y137, y139, y140, f141, y144, y145, f146, y149, y150, f151, (p210.2.1 : Int32), (p210.2.2.1 : Int32), (p210.2.2.2.1 : (Nat → Int32)), (p210.2.2.2.2.1 : Int32), (p210.2.2.2.2.2.1 : Int32), (p210.2.2.2.2.2.2.1 : Int32), (p210.2.2.2.2.2.2.2.1 : Int32), (p210.2.2.2.2.2.2.2.2 : (Nat → Int32))))
def F_NH_decimal_ab_c133 (x2 : Int32) (x3 : Int32) (x4 : Int32) (x5 : Int32) (t0_0 : Int64) (t0_1 : Int32) (t1_0 : Int32) (t1_1 : Int32) (t2_0 : (Nat → Int32)) (t3_0 : Int32) (t3_1 : Int32) (t4_0 : (Nat → Int32)) (t5_0 : Int32) (t5_1 : Int32) (t6_0 : (Nat → Int32)) (t7_0 : Int32) (t7_1 : Int32) (t8_0 : (Nat → Int32)) (t9_0 : Int32) (t9_1 : Int32) (t10_0 : (Nat → Int32)) (t11_0 : Int32) (t11_1 : Int32) (t12_0 : Int32) (t12_1 : Int32) (t13_0 : (Nat → Int32)) (t14_0 : Int32) (t14_1 : Int32) (t15_0 : Int32) (t15_1 : Int32) (t16_0 : (Nat → Int32)) (lx71 : Int32) (p171 : (Int64 × Int32 × Int32 × Int32 × (Nat → Int32) × Int32 × Int32 × (Nat → Int32) × Int32 × Int32 × (Nat → Int32))) : Int32 × Int64 × Int32 × Int32 × Int32 × (Nat → Int32) × Int32 × Int32 × (Nat → Int32) × Int32 × Int32 × (Nat → Int32) × Int32 × Int32 × (Nat → Int32) × Int32 × Int32 × Int32 × Int32 × (Nat → Int32) := F_NH_decimal_ab_c139 x2 x3 x4 x5 t0_0 t0_1 t1_0 t1_1 t2_0 t3_0 t3_1 t4_0 t5_0 t5_1 t6_0 t7_0 t7_1 t8_0 t9_0 t9_1 t10_0 t11_0 t11_1 t12_0 t12_1 t13_0 t14_0 t14_1 t15_0 t15_1 t16_0 lx71 p171 (p171.1 : Int64) (p171.2.1 : Int32) (p171.2.2.1 : Int32) (p171.2.2.2.1 : Int32) (p171.2.2.2.2.1 : (Nat → Int32)) (p171.2.2.2.2.2.1 : Int32) (p171.2.2.2.2.2.2.1 : Int32) (p171.2.2.2.2.2.2.2.1 : (Nat → Int32)) (p171.2.2.2.2.2.2.2.2.1 : Int32) (p171.2.2.2.2.2.2.2.2.2.1 : Int32) (p171.2.2.2.2.2.2.2.2.2.2 : (Nat → Int32)) ((F_NH_keepDecimal x5 (p171.1 : Int64) (p171.2.1 : Int32) (p171.2.2.1 : Int32) (p171.2.2.2.1 : Int32) (p171.2.2.2.2.1 : (Nat → Int32)) t9_0 t9_1 t10_0 t14_0 t14_1 t15_0 t15_1 t16_0) : (Int32 × Int32 × Int32 × (Nat → Int32) × Int32 × Int32 × Int32 × Int32 × (Nat → Int32)))
def F_NH_decimal_ab_c139_5 (x2 : Int32) (x3 : Int32) (x4 : Int32) (x5 : Int32) (t0_0 : Int64) (t0_1 : Int32) (t1_0 : Int32) (t1_1 : Int32) (t2_0 : (Nat → Int32)) (t3_0 : Int32) (t3_1 : Int32) (t4_0 : (Nat → Int32)) (t5_0 : Int32) (t5_1 : Int32) (t6_0 : (Nat → Int32)) (t7_0 : Int32) (t7_1 : Int32) (t8_0 : (Nat → Int32)) (t9_0 : Int32) (t9_1 : Int32) (t10_0 : (Nat → Int32)) (t11_0 : Int32) (t11_1 : Int32) (t12_0 : Int32) (t12_1 : Int32) (t13_0 : (Nat → Int32)) (t14_0 : Int32) (t14_1 : Int32) (t15_0 : Int32) (t15_1 : Int32) (t16_0 : (Nat → Int32)) (lx71 : Int32) (p323 : (Int64 × Int32 × Int32 × Int32 × (Nat → Int32) × Int32 × Int32 × (Nat → Int32) × Int32 × Int32 × (Nat → Int32))) (y288 : Int64) (y289 : Int32) (y291 : Int32) (y292 : Int32) (f293 : (Nat → Int32)) (y296 : Int32) (y297 : Int32) (f298 : (Nat → Int32)) (y301 : Int32) (y302 : Int32) (f303 : (Nat → Int32)) (p362 : (Int32 × Int32 × Int32 × (Nat → Int32) × Int32 × Int32 × Int32 × Int32 × (Nat → Int32))) : Int32 × Int64 × Int32 × Int32 × Int32 × (Nat → Int32) × Int32 × Int32 × (Nat → Int32) × Int32 × Int32 × (Nat → Int32) × Int32 × Int32 × (Nat → Int32) × Int32 × Int32 × Int32 × Int32 × (Nat → Int32) := if p362.1 = (0 : Int32) then (((0 : Int32), y288, y289, y291, y292, f293, y296, y297, f298, y301, y302, f303, (p362.2.1 : Int32), (p362.2.2.1 : Int32), (p362.2.2.2.1 : (Nat → Int32)), (p362.2.2.2.2.1 : Int32), (p362.2.2.2.2.2.1 : Int32), (p362.2.2.2.2.2.2.1 : Int32), (p362.2.2.2.2.2.2.2.1 : Int32), (p362.2.2.2.2.2.2.2.2 : (Nat → Int32)))) else ((p362.1, y288, y289, y291, y292, f293, y296, y297, f298, y301, y302, f303, (p362.2.1 : Int32), (p362.2.2.1 : Int32), (p362.2.2.2.1 : (Nat → Int32)), (p362.2.2.2.2.1 : Int32), (p362.2.2.2.2.2.1 : Int32), (p362.2.2.2.2.2.2.1 : Int32), (p362.2.2.2.2.2.2.2.1 : Int32), (p362.2.2.2.2.2.2.2.2 : (Nat → Int32))))
def F_NH_decimal_ab_c133_4 (x2 : Int32) (x3 : Int32) (x4 : Int32) (x5 : Int32) (t0_0 : Int64) (t0_1 : Int32) (t1_0 : Int32) (t1_1 : Int32) (t2_0 : (Nat → Int32)) (t3_0 : Int32) (t3_1 : Int32) (t4_0 : (Nat → Int32)) (t5_0 : Int32) (t5_1 : Int32) (t6_0 : (Nat → Int32)) (t7_0 : Int32) (t7_1 : Int32) (t8_0 : (Nat → Int32)) (t9_0 : Int32) (t9_1 : Int32) (t10_0 : (Nat → Int32)) (t11_0 : Int32) (t11_1 : Int32) (t12_0 : Int32) (t12_1 : Int32) (t13_0 : (Nat → Int32)) (t14_0 : Int32) (t14_1 : Int32) (t15_0 : Int32) (t15_1 : Int32) (t16_0 : (Nat → Int32)) (lx71 : Int32) (p323 : (Int64 × Int32 × Int32 × Int32 × (Nat → Int32) × Int32 × Int32 × (Nat → Int32) × Int32 × Int32 × (Nat → Int32))) : Int32 × Int64 × Int32 × Int32 × Int32 × (Nat → Int32) × Int32 × Int32 × (Nat → Int32) × Int32 × Int32 × (Nat → Int32) × Int32 × Int32 × (Nat → Int32) × Int32 × Int32 × Int32 × Int32 × (Nat → Int32) := F_NH_decimal_ab_c139_5 x2 x3 x4 x5 t0_0 t0_1 t1_0 t1_1 t2_0 t3_0 t3_1 t4_0 t5_0 t5_1 t6_0 t7_0 t7_1 t8_0 t9_0 t9_1 t10_0 t11_0 t11_1 t12_0 t12_1 t13_0 t14_0 t14_1 t15_0 t15_1 t16_0 lx71 p323 (p323.1 : Int64) (p323.2.1 : Int32) (p323.2.2.1 : Int32) (p323.2.2.2.1 : Int32) (p323.2.2.2.2.1 : (Nat → Int32)) (p323.2.2.2.2.2.1 : Int32) (p323.2.2.2.2.2.2.1 : Int32) (p323.2.2.2.2.2.2.2.1 : (Nat → Int32)) (p323.2.2.2.2.2.2.2.2.1 : Int32) (p323.2.2.2.2.2.2.2.2.2.1 : Int32) (p323.2.2.2.2.2.2.2.2.2.2 : (Nat → Int32)) ((F_NH_keepDecimal x5 (p323.1 : Int64) (p323.2.1 : Int32) (p323.2.2.1 : Int32) (p323.2.2.2.1 : Int32) (p323.2.2.2.2.1 : (Nat → Int32)) t9_0 t9_1 t10_0 t14_0 t14_1 t15_0 t15_1 t16_0) : (Int32 × Int32 × Int32 × (Nat → Int32) × Int32 × Int32 × Int32 × Int32 × (Nat → Int32)))
def F_NH_decimal_ab_c139_7 (x2 : Int32) (x3 : Int32) (x4 : Int32) (x5 : Int32) (t0_0 : Int64) (t0_1 : Int32) (t1_0 : Int32) (t1_1 : Int32) (t2_0 : (Nat → Int32)) (t3_0 : Int32) (t3_1 : Int32) (t4_0 : (Nat → Int32)) (t5_0 : Int32) (t5_1 : Int32) (t6_0 : (Nat → Int32)) (t7_0 : Int32) (t7_1 : Int32) (t8_0 : (Nat → Int32)) (t9_0 : Int32) (t9_1 : Int32) (t10_0 : (Nat → Int32)) (t11_0 : Int32) (t11_1 : Int32) (t12_0 : Int32) (t12_1 : Int32) (t13_0 : (Nat → Int32)) (t14_0 : Int32) (t14_1 : Int32) (t15_0 : Int32) (t15_1 : Int32) (t16_0 : (Nat → Int32)) (lx71 : Int32) (p449 : (Int64 × Int32 × Int32 × Int32 × (Nat → Int32))) (y430 : Int64) (y431 : Int32) (y433 : Int32) (y434 : Int32) (f435 : (Nat → Int32)) (p482 : (Int32 × Int32 × Int32 × (Nat → Int32) × Int32 × Int32 × Int32 × Int32 × (Nat → Int32))) : Int32 × Int64 × Int32 × Int32 × Int32 × (Nat → Int32) × Int32 × Int32 × (Nat → Int32) × Int32 × Int32 × (Nat → Int32) × Int32 × Int32 × (Nat → Int32) × Int32 × Int32 × Int32 × Int32 × (Nat → Int32) := if p482.1 = (0 : Int32) then (((0 : Int32), y430, y431, y433, y434, f435, t3_0, t3_1, t4_0, t5_0, t5_1, t6_0, (p482.2.1 : Int32), (p482.2.2.1 : Int32), (p482.2.2.2.1 : (Nat → Int32)), (p482.2.2.2.2.1 : Int32), (p482.2.2.2.2.2.1 : Int32), (p482.2.2.2.2.2.2.1 : Int32), (p482.2.2.2.2.2.2.2.1 : Int32), (p482.2.2.2.2.2.2.2.2 : (Nat → Int32)))) else ((p482.1, y430, y431, y433, y434, f435, t3_0, t3_1, t4_0, t5_0, t5_1, t6_0, (p482.2.1 : Int32), (p482.2.2.1 : Int32), (p482.2.2.2.1 : (Nat → Int32)), (p482.2.2.2.2.1 : Int32), (p482.2.2.2.2.2.1 : Int32), (p482.2.2.2.2.2.2.1 : Int32), (p482.2.2.2.2.2.2.2.1 : Int32), (p482.2.2.2.2.2.2.2.2 : (Nat → Int32))))
def F_NH_decimal_ab_c100 (x2 : Int32) (x3 : Int32) (x4 : Int32) (x5 : Int32) (t0_0 : Int64) (t0_1 : Int32) (t1_0 : Int32) (t1_1 : Int32) (t2_0 : (Nat → Int32)) (t3_0 : Int32) (t3_1 : Int32) (t4_0 : (Nat → Int32)) (t5_0 : Int32) (t5_1 : Int32) (t6_0 : (Nat → Int32)) (t7_0 : Int32) (t7_1 : Int32) (t8_0 : (Nat → Int32)) (t9_0 : Int32) (t9_1 : Int32) (t10_0 : (Nat → Int32)) (t11_0 : Int32) (t11_1 : Int32) (t12_0 : Int32) (t12_1 : Int32) (t13_0 : (Nat → Int32)) (t14_0 : Int32) (t14_1 : Int32) (t15_0 : Int32) (t15_1 : Int32) (t16_0 : (Nat → Int32)) (lx71 : Int32) (p449 : (Int64 × Int32 × Int32 × Int32 × (Nat → Int32))) : Int32 × Int64 × Int32 × Int32 × Int32 × (Nat → Int32) × Int32 × Int32 × (Nat → Int32) × Int32 × Int32 × (Nat → Int32) × Int32 × Int32 × (Nat → Int32) × Int32 × Int32 × Int32 × Int32 × (Nat → Int32) := F_NH_decimal_ab_c139_7 x2 x3 x4 x5 t0_0 t0_1 t1_0 t1_1 t2_0 t3_0 t3_1 t4_0 t5_0 t5_1 t6_0 t7_0 t7_1 t8_0 t9_0 t9_1 t10_0 t11_0 t11_1 t12_0 t12_1 t13_0 t14_0 t14_1 t15_0 t15_1 t16_0 lx71 p449 (p449.1 : Int64) (p449.2.1 : Int32) (p449.2.2.1 : Int32) (p449.2.2.2.1 : Int32) (p449.2.2.2.2 : (Nat → Int32)) ((F_NH_keepDecimal x5 (p449.1 : Int64) (p449.2.1 : Int32) (p449.2.2.1 : Int32) (p449.2.2.2.1 : Int32) (p449.2.2.2.2 : (Nat → Int32)) t9_0 t9_1 t10_0 t14_0 t14_1 t15_0 t15_1 t16_0) : (Int32 × Int32 × Int32 × (Nat → Int32) × Int32 × Int32 × Int32 × Int32 × (Nat → Int32)))
def F_NH_decimal_ab_c139_9 (x2 : Int32) (x3 : Int32) (x4 : Int32) (x5 : Int32) (t0_0 : Int64) (t0_1 : Int32) (t1_0 : Int32) (t1_1 : Int32) (t2_0 : (Nat → Int32)) (t3_0 : Int32) (t3_1 : Int32) (t4_0 : (Nat → Int32)) (t5_0 : Int32) (t5_1 : Int32) (t6_0 : (Nat → Int32)) (t7_0 : Int32) (t7_1 : Int32) (t8_0 : (Nat → Int32)) (t9_0 : Int32) (t9_1 : Int32) (t10_0 : (Nat → Int32)) (t11_0 : Int32) (t11_1 : Int32) (t12_0 : Int32) (t12_1 : Int32) (t13_0 : (Nat → Int32)) (t14_0 : Int32) (t14_1 : Int32) (t15_0 : Int32) (t15_1 : Int32) (t16_0 : (Nat → Int32)) (lx71 : Int32) (p582 : (Int32 × Int64 × Int32 × Int32 × Int32 × (Nat → Int32) × Int32 × Int32 × (Nat → Int32))) (y553 : Int64) (y554 : Int32) (y556 : Int32) (y557 : Int32) (f558 : (Nat → Int32)) (y561 : Int32) (y562 : Int32) (f563 : (Nat → Int32)) (p628 : (Int32 × Int32 × Int32 × (Nat → Int32) × Int32 × Int32 × Int32 × Int32 × (Nat → Int32))) : Int32 × Int64 × Int32 × Int32 × Int32 × (Nat → Int32) × Int32 × Int32 × (Nat → Int32) × Int32 × Int32 × (Nat → Int32) × Int32 × Int32 × (Nat → Int32) × Int32 × Int32 × Int32 × Int32 × (Nat → Int32) := if p628.1 = (0 : Int32) then (((0 : Int32), y553, y554, y556, y557, f558, t3_0, t3_1, t4_0, y561, y562, f563, (p628.2.1 : Int32), (p628.2.2.1 : Int32), (p628.2.2.2.1 : (Nat → Int32)), (p628.2.2.2.2.1 : Int32), (p628.2.2.2.2.2.1 : Int32), (p628.2.2.2.2.2.2.1 : Int32), (p628.2.2.2.2.2.2.2.1 : Int32), (p628.2.2.2.2.2.2.2.2 : (Nat → Int32)))) else ((p628.1, y553, y554, y556, y557, f558, t3_0, t3_1, t4_0, y561, y562, f563, (p628.2.1 : Int32), (p628.2.2.1 : Int32), (p628.2.2.2.1 : (Nat → Int32)), (p628.2.2.2.2.1 : Int32), (p628.2.2.2.2.2.1 : Int32), (p628.2.2.2.2.2.2.1 : Int32), (p628.2.2.2.2.2.2.2.1 : Int32), (p628.2.2.2.2.2.2.2.2 : (Nat → Int32))))
def F_NH_decimal_ab_c78 (x2 : Int32) (x3 : Int32) (x4 : Int32) (x5 : Int32) (t0_0 : Int64) (t0_1 : Int32) (t1_0 : Int32) (t1_1 : Int32) (t2_0 : (Nat → Int32)) (t3_0 : Int32) (t3_1 : Int32) (t4_0 : (Nat → Int32)) (t5_0 : Int32) (t5_1 : Int32) (t6_0 : (Nat → Int32)) (t7_0 : Int32) (t7_1 : Int32) (t8_0 : (Nat → Int32)) (t9_0 : Int32) (t9_1 : Int32) (t10_0 : (Nat → Int32)) (t11_0 : Int32) (t11_1 : Int32) (t12_0 : Int32) (t12_1 : Int32) (t13_0 : (Nat → Int32)) (t14_0 : Int32) (t14_1 : Int32) (t15_0 : Int32) (t15_1 : Int32) (t16_0 : (Nat → Int32)) (lx71 : Int32) (p582 : (Int32 × Int64 × Int32 × Int32 × Int32 × (Nat → Int32) × Int32 × Int32 × (Nat → Int32))) : Int32 × Int64 × Int32 × Int32 × Int32 × (Nat → Int32) × Int32 × Int32 × (Nat → Int32) × Int32 × Int32 × (Nat → Int32) × Int32 × Int32 × (Nat → Int32) × Int32 × Int32 × Int32 × Int32 × (Nat → Int32) := if (F_NH_canHave (p582.1 : Int32)) = (0 : Int32) then (F_NH_decimal_ab_c139_9 x2 x3 x4 x5 t0_0 t0_1 t1_0 t1_1 t2_0 t3_0 t3_1 t4_0 t5_0 t5_1 t6_0 t7_0 t7_1 t8_0 t9_0 t9_1 t10_0 t11_0 t11_1 t12_0 t12_1 t13_0 t14_0 t14_1 t15_0 t15_1 t16_0 lx71 p582 (p582.2.1 : Int64) (p582.2.2.1 : Int32) (p582.2.2.2.1 : Int32) (p582.2.2.2.2.1 : Int32) (p582.2.2.2.2.2.1 : (Nat → Int32)) (p582.2.2.2.2.2.2.1 : Int32) (p582.2.2.2.2.2.2.2.1 : Int32) (p582.2.2.2.2.2.2.2.2 : (Nat → Int32)) ((F_NH_keepDecimal x5 (p582.2.1 : Int64) (p582.2.2.1 : Int32) (p582.2.2.2.1 : Int32) (p582.2.2.2.2.1 : Int32) (p582.2.2.2.2.2.1 : (Nat → Int32)) t9_0 t9_1 t10_0 t14_0 t14_1 t15_0 t15_1 t16_0) : (Int32 × Int32 × Int32 × (Nat → Int32) × Int32 × Int32 × Int32 × Int32 × (Nat → Int32)))) else (((F_NH_canHave (p582.1 : Int32)), (p582.2.1 : Int64), (p582.2.2.1 : Int32), (p582.2.2.2.1 : Int32), (p582.2.2.2.2.1 : Int32), (p582.2.2.2.2.2.1 : (Nat → Int32)), t3_0, t3_1, t4_0, (p582.2.2.2.2.2.2.1 : Int32), (p582.2.2.2.2.2.2.2.1 : Int32), (p582.2.2.2.2.2.2.2.2 : (Nat → Int32)), t9_0, t9_1, t10_0, t14_0, t14_1, t15_0, t15_1, t16_0))
def F_NH_decimal_ab_c139_11 (x2 : Int32) (x3 : Int32) (x4 : Int32) (x5 : Int32) (t0_0 : Int64) (t0_1 : Int32) (t1_0 : Int32) (t1_1 : Int32) (t2_0 : (Nat → Int32)) (t3_0 : Int32) (t3_1 : Int32) (t4_0 : (Nat → Int32)) (t5_0 : Int32) (t5_1 : Int32) (t6_0 : (Nat → Int32)) (t7_0 : Int32) (t7_1 : Int32) (t8_0 : (Nat → Int32)) (t9_0 : Int32) (t9_1 : Int32) (t10_0 : (Nat → Int32)) (t11_0 : Int32) (t11_1 : Int32) (t12_0 : Int32) (t12_1 : Int32) (t13_0 : (Nat → Int32)) (t14_0 : Int32) (t14_1 : Int32) (t15_0 : Int32) (t15_1 : Int32) (t16_0 : (Nat → Int32)) (lx71 : Int32) (p726 : (Int32 × Int64 × Int32 × Int32 × Int32 × (Nat → Int32) × Int32 × Int32 × (Nat → Int32))) (y697 : Int64) (y698 : Int32) (y700 : Int32) (y701 : Int32) (f702 : (Nat → Int32)) (y705 : Int32) (y706 : Int32) (f707 : (Nat → Int32)) (p772 : (Int32 × Int32 × Int32 × (Nat → Int32) × Int32 × Int32 × Int32 × Int32 × (Nat → Int32))) : Int32 × Int64 × Int32 × Int32 × Int32 × (Nat → Int32) × Int32 × Int32 × (Nat → Int32) × Int32 × Int32 × (Nat → Int32) × Int32 × Int32 × (Nat → Int32) × Int32 × Int32 × Int32 × Int32 × (Nat → Int32) := if p772.1 = (0 : Int32) then (((0 : Int32), y697, y698, y700, y701, f702, t3_0, t3_1, t4_0, y705, y706, f707, (p772.2.1 : Int32), (p772.2.2.1 : Int32), (p772.2.2.2.1 : (Nat → Int32)), (p772.2.2.2.2.1 : Int32), (p772.2.2.2.2.2.1 : Int32), (p772.2.2.2.2.2.2.1 : Int32), (p772.2.2.2.2.2.2.2.1 : Int32), (p772.2.2.2.2.2.2.2.2 : (Nat → Int32)))) else ((p772.1, y697, y698, y700, y701, f702, t3_0, t3_1, t4_0, y705, y706, f707, (p772.2.1 : Int32), (p772.2.2.1 : Int32), (p772.2.2.2.1 : (Nat → Int32)), (p772.2.2.2.2.1 : Int32), (p772.2.2.2.2.2.1 : Int32), (p772.2.2.2.2.2.2.1 : Int32), (p772.2.2.2.2.2.2.2.1 : Int32), (p772.2.2.2.2.2.2.2.2 : (Nat → Int32))))
def F_NH_decimal_ab_c78_10 (x2 : Int32) (x3 : Int32) (x4 : Int32) (x5 : Int32) (t0_0 : Int64) (t0_1 : Int32) (t1_0 : Int32) (t1_1 : Int32) (t2_0 : (Nat → Int32)) (t3_0 : Int32) (t3_1 : Int32) (t4_0 : (Nat → Int32)) (t5_0 : Int32) (t5_1 : Int32) (t6_0 : (Nat → Int32)) (t7_0 : Int32) (t7_1 : Int32) (t8_0 : (Nat → Int32)) (t9_0 : Int32) (t9_1 : Int32) (t10_0 : (Nat → Int32)) (t11_0 : Int32) (t11_1 : Int32) (t12_0 : Int32) (t12_1 : Int32) (t13_0 : (Nat → Int32)) (t14_0 : Int32) (t14_1 : Int32) (t15_0 : Int32) (t15_1 : Int32) (t16_0 : (Nat → Int32)) (lx71 : Int32) (p726 : (Int32 × Int64 × Int32 × Int32 × Int32 × (Nat → Int32) × Int32 × Int32 × (Nat → Int32))) : Int32 × Int64 × Int32 × Int32 × Int32 × (Nat → Int32) × Int32 × Int32 × (Nat → Int32) × Int32 × Int32 × (Nat → Int32) × Int32 × Int32 × (Nat → Int32) × Int32 × Int32 × Int32 × Int32 × (Nat → Int32) := if (F_NH_canHave (p726.1 : Int32)) = (0 : Int32) then (F_NH_decimal_ab_c139_11 x2 x3 x4 x5 t0_0 t0_1 t1_0 t1_1 t2_0 t3_0 t3_1 t4_0 t5_0 t5_1 t6_0 t7_0 t7_1 t8_0 t9_0 t9_1 t10_0 t11_0 t11_1 t12_0 t12_1 t13_0 t14_0 t14_1 t15_0 t15_1 t16_0 lx71 p726 (p726.2.1 : Int64) (p726.2.2.1 : Int32) (p726.2.2.2.1 : Int32) (p726.2.2.2.2.1 : Int32) (p726.2.2.2.2.2.1 : (Nat → Int32)) (p726.2.2.2.2.2.2.1 : Int32) (p726.2.2.2.2.2.2.2.1 : Int32) (p726.2.2.2.2.2.2.2.2 : (Nat → Int32)) ((F_NH_keepDecimal x5 (p726.2.1 : Int64) (p726.2.2.1 : Int32) (p726.2.2.2.1 : Int32) (p726.2.2.2.2.1 : Int32) (p726.2.2.2.2.2.1 : (Nat → Int32)) t9_0 t9_1 t10_0 t14_0 t14_1 t15_0 t15_1 t16_0) : (Int32 × Int32 × Int32 × (Nat → Int32) × Int32 × Int32 × Int32 × Int32 × (Nat → Int32)))) else (((F_NH_canHave (p726.1 : Int32)), (p726.2.1 : Int64), (p726.2.2.1 : Int32), (p726.2.2.2.1 : Int32), (p726.2.2.2.2.1 : Int32), (p726.2.2.2.2.2.1 : (Nat → Int32)), t3_0, t3_1, t4_0, (p726.2.2.2.2.2.2.1 : Int32), (p726.2.2.2.2.2.2.2.1 : Int32), (p726.2.2.2.2.2.2.2.2 : (Nat → Int32)), t9_0, t9_1, t10_0, t14_0, t14_1, t15_0, t15_1, t16_0))
def F_NH_decimal_ab_J36 (x2 : Int32) (x3 : Int32) (x4 : Int32) (x5 : Int32) (t0_0 : Int64) (t0_1 : Int32) (t1_0 : Int32) (t1_1 : Int32) (t2_0 : (Nat → Int32)) (t3_0 : Int32) (t3_1 : Int32) (t4_0 : (Nat → Int32)) (t5_0 : Int32) (t5_1 : Int32) (t6_0 : (Nat → Int32)) (t7_0 : Int32) (t7_1 : Int32) (t8_0 : (Nat → Int32)) (t9_0 : Int32) (t9_1 : Int32) (t10_0 : (Nat → Int32)) (t11_0 : Int32) (t11_1 : Int32) (t12_0 : Int32) (t12_1 : Int32) (t13_0 : (Nat → Int32)) (t14_0 : Int32) (t14_1 : Int32) (t15_0 : Int32) (t15_1 : Int32) (t16_0 : (Nat → Int32)) (lx71 : Int32) : Int32 × Int64 × Int32 × Int32 × Int32 × (Nat → Int32) × Int32 × Int32 × (Nat → Int32) × Int32 × Int32 × (Nat → Int32) × Int32 × Int32 × (Nat → Int32) × Int32 × Int32 × Int32 × Int32 × (Nat → Int32) := if (F_NH_need lx71) = (0 : Int32) then (if (1 : Int32) < x2 then (if x2 = (2 : Int32) then (F_NH_decimal_ab_c100 x2 x3 x4 x5 t0_0 t0_1 t1_0 t1_1 t2_0 t3_0 t3_1 t4_0 t5_0 t5_1 t6_0 t7_0 t7_1 t8_0 t9_0 t9_1 t10_0 t11_0 t11_1 t12_0 t12_1 t13_0 t14_0 t14_1 t15_0 t15_1 t16_0 lx71 ((F_DW_multiply (108 : Int32) (108 : Int32) t0_0 t0_1 t1_0 t1_1 t2_0 t11_0 t11_1 t12_0 t12_1 t13_0 t11_0 t11_1 t12_0 t12_1 t13_0) : (Int64 × Int32 × Int32 × Int32 × (Nat → Int32)))) else (if t12_0 ≤ (0 : Int32) then (if (F_NH_canHave (0 : Int32)) = (0 : Int32) then (F_NH_decimal_ab_c133 x2 x3 x4 x5 t0_0 t0_1 t1_0 t1_1 t2_0 t3_0 t3_1 t4_0 t5_0 t5_1 t6_0 t7_0 t7_1 t8_0 t9_0 t9_1 t10_0 t11_0 t11_1 t12_0 t12_1 t13_0 t14_0 t14_1 t15_0 t15_1 t16_0 lx71 ((F_DW_rest_a (108 : Int32) t0_0 t0_1 t1_0 t1_1 t2_0 t3_0 t3_1 t4_0 t5_0 t5_1 t6_0 t7_0 t7_1 t8_0 t11_0 t11_1 t12_0 t12_1 t13_0) : (Int64 × Int32 × Int32 × Int32 × (Nat → Int32) × Int32 × Int32 × (Nat → Int32) × Int32 × Int32 × (Nat → Int32)))) else (((F_NH_canHave (0 : Int32)), t0_0, t0_1, t1_0, t1_1, t2_0, t3_0, t3_1, t4_0, t5_0, t5_1, t6_0, t9_0, t9_1, t10_0, t14_0, t14_1, t15_0, t15_1, t16_0))) else (if (F_NH_canHave (1 : Int32)) = (0 : Int32) then (F_NH_decimal_ab_c133_4 x2 x3 x4 x5 t0_0 t0_1 t1_0 t1_1 t2_0 t3_0 t3_1 t4_0 t5_0 t5_1 t6_0 t7_0 t7_1 t8_0 t9_0 t9_1 t10_0 t11_0 t11_1 t12_0 t12_1 t13_0 t14_0 t14_1 t15_0 t15_1 t16_0 lx71 ((F_DW_rest_a (108 : Int32) t0_0 t0_1 t1_0 t1_1 t2_0 t3_0 t3_1 t4_0 t5_0 t5_1 t6_0 t7_0 t7_1 t8_0 t11_0 t11_1 t12_0 t12_1 t13_0) : (Int64 × Int32 × Int32 × Int32 × (Nat → Int32) × Int32 × Int32 × (Nat → Int32) × Int32 × Int32 × (Nat → Int32)))) else (((F_NH_canHave (1 : Int32)), t0_0, t0_1, t1_0, t1_1, t2_0, t3_0, t3_1, t4_0, t5_0, t5_1, t6_0, t9_0, t9_1, t10_0, t14_0, t14_1, t15_0, t15_1, t16_0))))) else (if x2 = (1 : Int32) then (F_NH_decimal_ab_c78_10 x2 x3 x4 x5 t0_0 t0_1 t1_0 t1_1 t2_0 t3_0 t3_1 t4_0 t5_0 t5_1 t6_0 t7_0 t7_1 t8_0 t9_0 t9_1 t10_0 t11_0 t11_1 t12_0 t12_1 t13_0 t14_0 t14_1 t15_0 t15_1 t16_0 lx71 ((F_DW_sum (108 : Int32) (108 : Int32) (1 : Int32) t0_0 t0_1 t1_0 t1_1 t2_0 t5_0 t5_1 t6_0 t11_0 t11_1 t12_0 t12_1 t13_0 t11_0 t11_1 t12_0 t12_1 t13_0) : (Int32 × Int64 × Int32 × Int32 × Int32 × (Nat → Int32) × Int32 × Int32 × (Nat → Int32)))) else (F_NH_decimal_ab_c78 x2 x3 x4 x5 t0_0 t0_1 t1_0 t1_1 t2_0 t3_0 t3_1 t4_0 t5_0 t5_1 t6_0 t7_0 t7_1 t8_0 t9_0 t9_1 t10_0 t11_0 t11_1 t12_0 t12_1 t13_0 t14_0 t14_1 t15_0 t15_1 t16_0 lx71 ((F_DW_sum (108 : Int32) (108 : Int32) (0 : Int32) t0_0 t0_1 t1_0 t1_1 t2_0 t5_0 t5_1 t6_0 t11_0 t11_1 t12_0 t12_1 t13_0 t11_0 t11_1 t12_0 t12_1 t13_0) : (Int32 × Int64 × Int32 × Int32 × Int32 × (Nat → Int32) × Int32 × Int32 × (Nat → Int32)))))) else (((F_NH_need lx71), t0_0, t0_1, t1_0, t1_1, t2_0, t3_0, t3_1, t4_0, t5_0, t5_1, t6_0, t9_0, t9_1, t10_0, t14_0, t14_1, t15_0, t15_1, t16_0))
def F_NH_decimal_ab_J35 (x2 : Int32) (x3 : Int32) (x4 : Int32) (x5 : Int32) (t0_0 : Int64) (t0_1 : Int32) (t1_0 : Int32) (t1_1 : Int32) (t2_0 : (Nat → Int32)) (t3_0 : Int32) (t3_1 : Int32) (t4_0 : (Nat → Int32)) (t5_0 : Int32) (t5_1 : Int32) (t6_0 : (Nat → Int32)) (t7_0 : Int32) (t7_1 : Int32) (t8_0 : (Nat → Int32)) (t9_0 : Int32) (t9_1 : Int32) (t10_0 : (Nat → Int32)) (t11_0 : Int32) (t11_1 : Int32) (t12_0 : Int32) (t12_1 : Int32) (t13_0 : (Nat → Int32)) (t14_0 : Int32) (t14_1 : Int32) (t15_0 : Int32) (t15_1 : Int32) (t16_0 : (Nat → Int32)) : Int32 × Int64 × Int32 × Int32 × Int32 × (Nat → Int32) × Int32 × Int32 × (Nat → Int32) × Int32 × Int32 × (Nat → Int32) × Int32 × Int32 × (Nat → Int32) × Int32 × Int32 × Int32 × Int32 × (Nat → Int32) := F_NH_decimal_ab_J36 x2 x3 x4 x5 t0_0 t0_1 t1_0 t1_1 t2_0 t3_0 t3_1 t4_0 t5_0 t5_1 t6_0 t7_0 t7_1 t8_0 t9_0 t9_1 t10_0 t11_0 t11_1 t12_0 t12_1 t13_0 t14_0 t14_1 t15_0 t15_1 t16_0 0
def F_NH_decimal_ab (x2 : Int32) (x3 : Int32) (x4 : Int32) (x5 : Int32) (t0_0 : Int64) (t0_1 : Int32) (t1_0 : Int32) (t1_1 : Int32) (t2_0 : (Nat → Int32)) (t3_0 : Int32) (t3_1 : Int32) (t4_0 : (Nat → Int32)) (t5_0 : Int32) (t5_1 : Int32) (t6_0 : (Nat → Int32)) (t7_0 : Int32) (t7_1 : Int32) (t8_0 : (Nat → Int32)) (t9_0 : Int32) (t9_1 : Int32) (t10_0 : (Nat → Int32)) (t11_0 : Int32) (t11_1 : Int32) (t12_0 : Int32) (t12_1 : Int32) (t13_0 : (Nat → Int32)) (t14_0 : Int32) (t14_1 : Int32) (t15_0 : Int32) (t15_1 : Int32) (t16_0 : (Nat → Int32)) : Int32 × Int64 × Int32 × Int32 × Int32 × (Nat → Int32) × Int32 × Int32 × (Nat → Int32) × Int32 × Int32 × (Nat → Int32) × Int32 × Int32 × (Nat → Int32) × Int32 × Int32 × Int32 × Int32 × (Nat → Int32) := if x2 < (0 : Int32) then (F_NH_decimal_ab_J35 x2 x3 x4 x5 t0_0 t0_1 t1_0 t1_1 t2_0 t3_0 t3_1 t4_0 t5_0 t5_1 t6_0 t7_0 t7_1 t8_0 t9_0 t9_1 t10_0 t11_0 t11_1 t12_0 t12_1 t13_0 t14_0 t14_1 t15_0 t15_1 t16_0) else (if (3 : Int32) < x2 then (F_NH_decimal_ab_J35 x2 x3 x4 x5 t0_0 t0_1 t1_0 t1_1 t2_0 t3_0 t3_1 t4_0 t5_0 t5_1 t6_0 t7_0 t7_1 t8_0 t9_0 t9_1 t10_0 t11_0 t11_1 t12_0 t12_1 t13_0 t14_0 t14_1 t15_0 t15_1 t16_0) else (if ((F_NH_isRegister x3) : Int32) = (0 : Int32) then (F_NH_decimal_ab_J35 x2 x3 x4 x5 t0_0 t0_1 t1_0 t1_1 t2_0 t3_0 t3_1 t4_0 t5_0 t5_1 t6_0 t7_0 t7_1 t8_0 t9_0 t9_1 t10_0 t11_0 t11_1 t12_0 t12_1 t13_0 t14_0 t14_1 t15_0 t15_1 t16_0) else (if ((F_NH_isRegister x4) : Int32) = (0 : Int32) then (F_NH_decimal_ab_J35 x2 x3 x4 x5 t0_0 t0_1 t1_0 t1_1 t2_0 t3_0 t3_1 t4_0 t5_0 t5_1 t6_0 t7_0 t7_1 t8_0 t9_0 t9_1 t10_0 t11_0 t11_1 t12_0 t12_1 t13_0 t14_0 t14_1 t15_0 t15_1 t16_0) else (if ((F_NH_isRegister x5) : Int32) = (0 : Int32) then (F_NH_decimal_ab_J35 x2 x3 x4 x5 t0_0 t0_1 t1_0 t1_1 t2_0 t3_0 t3_1 t4_0 t5_0 t5_1 t6_0 t7_0 t7_1 t8_0 t9_0 t9_1 t10_0 t11_0 t11_1 t12_0 t12_1 t13_0 t14_0 t14_1 t15_0 t15_1 t16_0) else (F_NH_decimal_ab_J36 x2 x3 x4 x5 t0_0 t0_1 t1_0 t1_1 t2_0 t3_0 t3_1 t4_0 t5_0 t5_1 t6_0 t7_0 t7_1 t8_0 t9_0 t9_1 t10_0 t11_0 t11_1 t12_0 t12_1 t13_0 t14_0 t14_1 t15_0 t15_1 t16_0 1)))))
def S_NH_decimal_ab_c139 (x2 : Int32) (x3 : Int32) (x4 : Int32) (x5 : Int32) (t0_0 : Int64) (t0_1 : Int32) (t1_0 : Int32) (t1_1 : Int32) (t2_0 : (Nat → Int32)) (t3_0 : Int32) (t3_1 : Int32) (t4_0 : (Nat → Int32)) (t5_0 : Int32) (t5_1 : Int32) (t6_0 : (Nat → Int32)) (t7_0 : Int32) (t7_1 : Int32) (t8_0 : (Nat → Int32)) (t9_0 : Int32) (t9_1 : Int32) (t10_0 : (Nat → Int32)) (t11_0 : Int32) (t11_1 : Int32) (t12_0 : Int32) (t12_1 : Int32) (t13_0 : (Nat → Int32)) (t14_0 : Int32) (t14_1 : Int32) (t15_0 : Int32) (t15_1 : Int32) (t16_0 : (Nat → Int32)) (lx71 : Int32) (p171 : (Int64 × Int32 × Int32 × Int32 × (Nat → Int32) × Int32 × Int32 × (Nat → Int32) × Int32 × Int32 × (Nat → Int32))) (y136 : Int64) (y137 : Int32) (y139 : Int32) (y140 : Int32) (f141 : (Nat → Int32)) (y144 : Int32) (y145 : Int32) (f146 : (Nat → Int32)) (y149 : Int32) (y150 : Int32) (f151 : (Nat → Int32)) (p210 : (Int32 × Int32 × Int32 × (Nat → Int32) × Int32 × Int32 × Int32 × Int32 × (Nat → Int32))) : Prop := if p210.1 = (0 : Int32) then (True) else (True)
def S_NH_decimal_ab_c133 (x2 : Int32) (x3 : Int32) (x4 : Int32) (x5 : Int32) (t0_0 : Int64) (t0_1 : Int32) (t1_0 : Int32) (t1_1 : Int32) (t2_0 : (Nat → Int32)) (t3_0 : Int32) (t3_1 : Int32) (t4_0 : (Nat → Int32)) (t5_0 : Int32) (t5_1 : Int32) (t6_0 : (Nat → Int32)) (t7_0 : Int32) (t7_1 : Int32) (t8_0 : (Nat → Int32)) (t9_0 : Int32) (t9_1 : Int32) (t10_0 : (Nat → Int32)) (t11_0 : Int32) (t11_1 : Int32) (t12_0 : Int32) (t12_1 : Int32) (t13_0 : (Nat → Int32)) (t14_0 : Int32) (t14_1 : Int32) (t15_0 : Int32) (t15_1 : Int32) (t16_0 : (Nat → Int32)) (lx71 : Int32) (p171 : (Int64 × Int32 × Int32 × Int32 × (Nat → Int32) × Int32 × Int32 × (Nat → Int32) × Int32 × Int32 × (Nat → Int32))) : Prop := (True ∧ S_NH_keepDecimal x5 (p171.1 : Int64) (p171.2.1 : Int32) (p171.2.2.1 : Int32) (p171.2.2.2.1 : Int32) (p171.2.2.2.2.1 : (Nat → Int32)) t9_0 t9_1 t10_0 t14_0 t14_1 t15_0 t15_1 t16_0) ∧ (S_NH_decimal_ab_c139 x2 x3 x4 x5 t0_0 t0_1 t1_0 t1_1 t2_0 t3_0 t3_1 t4_0 t5_0 t5_1 t6_0 t7_0 t7_1 t8_0 t9_0 t9_1 t10_0 t11_0 t11_1 t12_0 t12_1 t13_0 t14_0 t14_1 t15_0 t15_1 t16_0 lx71 p171 (p171.1 : Int64) (p171.2.1 : Int32) (p171.2.2.1 : Int32) (p171.2.2.2.1 : Int32) (p171.2.2.2.2.1 : (Nat → Int32)) (p171.2.2.2.2.2.1 : Int32) (p171.2.2.2.2.2.2.1 : Int32) (p171.2.2.2.2.2.2.2.1 : (Nat → Int32)) (p171.2.2.2.2.2.2.2.2.1 : Int32) (p171.2.2.2.2.2.2.2.2.2.1 : Int32) (p171.2.2.2.2.2.2.2.2.2.2 : (Nat → Int32)) ((F_NH_keepDecimal x5 (p171.1 : Int64) (p171.2.1 : Int32) (p171.2.2.1 : Int32) (p171.2.2.2.1 : Int32) (p171.2.2.2.2.1 : (Nat → Int32)) t9_0 t9_1 t10_0 t14_0 t14_1 t15_0 t15_1 t16_0) : (Int32 × Int32 × Int32 × (Nat → Int32) × Int32 × Int32 × Int32 × Int32 × (Nat → Int32))))
def S_NH_decimal_ab_c139_5 (x2 : Int32) (x3 : Int32) (x4 : Int32) (x5 : Int32) (t0_0 : Int64) (t0_1 : Int32) (t1_0 : Int32) (t1_1 : Int32) (t2_0 : (Nat → Int32)) (t3_0 : Int32) (t3_1 : Int32) (t4_0 : (Nat → Int32)) (t5_0 : Int32) (t5_1 : Int32) (t6_0 : (Nat → Int32)) (t7_0 : Int32) (t7_1 : Int32) (t8_0 : (Nat → Int32)) (t9_0 : Int32) (t9_1 : Int32) (t10_0 : (Nat → Int32)) (t11_0 : Int32) (t11_1 : Int32) (t12_0 : Int32) (t12_1 : Int32) (t13_0 : (Nat → Int32)) (t14_0 : Int32) (t14_1 : Int32) (t15_0 : Int32) (t15_1 : Int32) (t16_0 : (Nat → Int32)) (lx71 : Int32) (p323 : (Int64 × Int32 × Int32 × Int32 × (Nat → Int32) × Int32 × Int32 × (Nat → Int32) × Int32 × Int32 × (Nat → Int32))) (y288 : Int64) (y289 : Int32) (y291 : Int32) (y292 : Int32) (f293 : (Nat → Int32)) (y296 : Int32) (y297 : Int32) (f298 : (Nat → Int32)) (y301 : Int32) (y302 : Int32) (f303 : (Nat → Int32)) (p362 : (Int32 × Int32 × Int32 × (Nat → Int32) × Int32 × Int32 × Int32 × Int32 × (Nat → Int32))) : Prop := if p362.1 = (0 : Int32) then (True) else (True)
def S_NH_decimal_ab_c133_4 (x2 : Int32) (x3 : Int32) (x4 : Int32) (x5 : Int32) (t0_0 : Int64) (t0_1 : Int32) (t1_0 : Int32) (t1_1 : Int32) (t2_0 : (Nat → Int32)) (t3_0 : Int32) (t3_1 : Int32) (t4_0 : (Nat → Int32)) (t5_0 : Int32) (t5_1 : Int32) (t6_0 : (Nat → Int32)) (t7_0 : Int32) (t7_1 : Int32) (t8_0 : (Nat → Int32)) (t9_0 : Int32) (t9_1 : Int32) (t10_0 : (Nat → Int32)) (t11_0 : Int32) (t11_1 : Int32) (t12_0 : Int32) (t12_1 : Int32) (t13_0 : (Nat → Int32)) (t14_0 : Int32) (t14_1 : Int32) (t15_0 : Int32) (t15_1 : Int32) (t16_0 : (Nat → Int32)) (lx71 : Int32) (p323 : (Int64 × Int32 × Int32 × Int32 × (Nat → Int32) × Int32 × Int32 × (Nat → Int32) × Int32 × Int32 × (Nat → Int32))) : Prop := (True ∧ S_NH_keepDecimal x5 (p323.1 : Int64) (p323.2.1 : Int32) (p323.2.2.1 : Int32) (p323.2.2.2.1 : Int32) (p323.2.2.2.2.1 : (Nat → Int32)) t9_0 t9_1 t10_0 t14_0 t14_1 t15_0 t15_1 t16_0) ∧ (S_NH_decimal_ab_c139_5 x2 x3 x4 x5 t0_0 t0_1 t1_0 t1_1 t2_0 t3_0 t3_1 t4_0 t5_0 t5_1 t6_0 t7_0 t7_1 t8_0 t9_0 t9_1 t10_0 t11_0 t11_1 t12_0 t12_1 t13_0 t14_0 t14_1 t15_0 t15_1 t16_0 lx71 p323 (p323.1 : Int64) (p323.2.1 : Int32) (p323.2.2.1 : Int32) (p323.2.2.2.1 : Int32) (p323.2.2.2.2.1 : (Nat → Int32)) (p323.2.2.2.2.2.1 : Int32) (p323.2.2.2.2.2.2.1 : Int32) (p323.2.2.2.2.2.2.2.1 : (Nat → Int32)) (p323.2.2.2.2.2.2.2.2.1 : Int32) (p323.2.2.2.2.2.2.2.2.2.1 : Int32) (p323.2.2.2.2.2.2.2.2.2.2 : (Nat → Int32)) ((F_NH_keepDecimal x5 (p323.1 : Int64) (p323.2.1 : Int32) (p323.2.2.1 : Int32) (p323.2.2.2.1 : Int32) (p323.2.2.2.2.1 : (Nat → Int32)) t9_0 t9_1 t10_0 t14_0 t14_1 t15_0 t15_1 t16_0) : (Int32 × Int32 × Int32 × (Nat → Int32) × Int32 × Int32 × Int32 × Int32 × (Nat → Int32))))
def S_NH_decimal_ab_c139_7 (x2 : Int32) (x3 : Int32) (x4 : Int32) (x5 : Int32) (t0_0 : Int64) (t0_1 : Int32) (t1_0 : Int32) (t1_1 : Int32) (t2_0 : (Nat → Int32)) (t3_0 : Int32) (t3_1 : Int32) (t4_0 : (Nat → Int32)) (t5_0 : Int32) (t5_1 : Int32) (t6_0 : (Nat → Int32)) (t7_0 : Int32) (t7_1 : Int32) (t8_0 : (Nat → Int32)) (t9_0 : Int32) (t9_1 : Int32) (t10_0 : (Nat → Int32)) (t11_0 : Int32) (t11_1 : Int32) (t12_0 : Int32) (t12_1 : Int32) (t13_0 : (Nat → Int32)) (t14_0 : Int32) (t14_1 : Int32) (t15_0 : Int32) (t15_1 : Int32) (t16_0 : (Nat → Int32)) (lx71 : Int32) (p449 : (Int64 × Int32 × Int32 × Int32 × (Nat → Int32))) (y430 : Int64) (y431 : Int32) (y433 : Int32) (y434 : Int32) (f435 : (Nat → Int32)) (p482 : (Int32 × Int32 × Int32 × (Nat → Int32) × Int32 × Int32 × Int32 × Int32 × (Nat → Int32))) : Prop := if p482.1 = (0 : Int32) then (True) else (True)
def S_NH_decimal_ab_c100 (x2 : Int32) (x3 : Int32) (x4 : Int32) (x5 : Int32) (t0_0 : Int64) (t0_1 : Int32) (t1_0 : Int32) (t1_1 : Int32) (t2_0 : (Nat → Int32)) (t3_0 : Int32) (t3_1 : Int32) (t4_0 : (Nat → Int32)) (t5_0 : Int32) (t5_1 : Int32) (t6_0 : (Nat → Int32)) (t7_0 : Int32) (t7_1 : Int32) (t8_0 : (Nat → Int32)) (t9_0 : Int32) (t9_1 : Int32) (t10_0 : (Nat → Int32)) (t11_0 : Int32) (t11_1 : Int32) (t12_0 : Int32) (t12_1 : Int32) (t13_0 : (Nat → Int32)) (t14_0 : Int32) (t14_1 : Int32) (t15_0 : Int32) (t15_1 : Int32) (t16_0 : (Nat → Int32)) (lx71 : Int32) (p449 : (Int64 × Int32 × Int32 × Int32 × (Nat → Int32))) : Prop := (True ∧ S_NH_keepDecimal x5 (p449.1 : Int64) (p449.2.1 : Int32) (p449.2.2.1 : Int32) (p449.2.2.2.1 : Int32) (p449.2.2.2.2 : (Nat → Int32)) t9_0 t9_1 t10_0 t14_0 t14_1 t15_0 t15_1 t16_0) ∧ (S_NH_decimal_ab_c139_7 x2 x3 x4 x5 t0_0 t0_1 t1_0 t1_1 t2_0 t3_0 t3_1 t4_0 t5_0 t5_1 t6_0 t7_0 t7_1 t8_0 t9_0 t9_1 t10_0 t11_0 t11_1 t12_0 t12_1 t13_0 t14_0 t14_1 t15_0 t15_1 t16_0 lx71 p449 (p449.1 : Int64) (p449.2.1 : Int32) (p449.2.2.1 : Int32) (p449.2.2.2.1 : Int32) (p449.2.2.2.2 : (Nat → Int32)) ((F_NH_keepDecimal x5 (p449.1 : Int64) (p449.2.1 : Int32) (p449.2.2.1 : Int32) (p449.2.2.2.1 : Int32) (p449.2.2.2.2 : (Nat → Int32)) t9_0 t9_1 t10_0 t14_0 t14_1 t15_0 t15_1 t16_0) : (Int32 × Int32 × Int32 × (Nat → Int32) × Int32 × Int32 × Int32 × Int32 × (Nat → Int32))))
def S_NH_decimal_ab_c139_9 (x2 : Int32) (x3 : Int32) (x4 : Int32) (x5 : Int32) (t0_0 : Int64) (t0_1 : Int32) (t1_0 : Int32) (t1_1 : Int32) (t2_0 : (Nat → Int32)) (t3_0 : Int32) (t3_1 : Int32) (t4_0 : (Nat → Int32)) (t5_0 : Int32) (t5_1 : Int32) (t6_0 : (Nat → Int32)) (t7_0 : Int32) (t7_1 : Int32) (t8_0 : (Nat → Int32)) (t9_0 : Int32) (t9_1 : Int32) (t10_0 : (Nat → Int32)) (t11_0 : Int32) (t11_1 : Int32) (t12_0 : Int32) (t12_1 : Int32) (t13_0 : (Nat → Int32)) (t14_0 : Int32) (t14_1 : Int32) (t15_0 : Int32) (t15_1 : Int32) (t16_0 : (Nat → Int32)) (lx71 : Int32) (p582 : (Int32 × Int64 × Int32 × Int32 × Int32 × (Nat → Int32) × Int32 × Int32 × (Nat → Int32))) (y553 : Int64) (y554 : Int32) (y556 : Int32) (y557 : Int32) (f558 : (Nat → Int32)) (y561 : Int32) (y562 : Int32) (f563 : (Nat → Int32)) (p628 : (Int32 × Int32 × Int32 × (Nat → Int32) × Int32 × Int32 × Int32 × Int32 × (Nat → Int32))) : Prop := if p628.1 = (0 : Int32) then (True) else (True)
def S_NH_decimal_ab_c78 (x2 : Int32) (x3 : Int32) (x4 : Int32) (x5 : Int32) (t0_0 : Int64) (t0_1 : Int32) (t1_0 : Int32) (t1_1 : Int32) (t2_0 : (Nat → Int32)) (t3_0 : Int32) (t3_1 : Int32) (t4_0 : (Nat → Int32)) (t5_0 : Int32) (t5_1 : Int32) (t6_0 : (Nat → Int32)) (t7_0 : Int32) (t7_1 : Int32) (t8_0 : (Nat → Int32)) (t9_0 : Int32) (t9_1 : Int32) (t10_0 : (Nat → Int32)) (t11_0 : Int32) (t11_1 : Int32) (t12_0 : Int32) (t12_1 : Int32) (t13_0 : (Nat → Int32)) (t14_0 : Int32) (t14_1 : Int32) (t15_0 : Int32) (t15_1 : Int32) (t16_0 : (Nat → Int32)) (lx71 : Int32) (p582 : (Int32 × Int64 × Int32 × Int32 × Int32 × (Nat → Int32) × Int32 × Int32 × (Nat → Int32))) : Prop := if (F_NH_canHave (p582.1 : Int32)) = (0 : Int32) then ((True ∧ S_NH_keepDecimal x5 (p582.2.1 : Int64) (p582.2.2.1 : Int32) (p582.2.2.2.1 : Int32) (p582.2.2.2.2.1 : Int32) (p582.2.2.2.2.2.1 : (Nat → Int32)) t9_0 t9_1 t10_0 t14_0 t14_1 t15_0 t15_1 t16_0) ∧ (S_NH_decimal_ab_c139_9 x2 x3 x4 x5 t0_0 t0_1 t1_0 t1_1 t2_0 t3_0 t3_1 t4_0 t5_0 t5_1 t6_0 t7_0 t7_1 t8_0 t9_0 t9_1 t10_0 t11_0 t11_1 t12_0 t12_1 t13_0 t14_0 t14_1 t15_0 t15_1 t16_0 lx71 p582 (p582.2.1 : Int64) (p582.2.2.1 : Int32) (p582.2.2.2.1 : Int32) (p582.2.2.2.2.1 : Int32) (p582.2.2.2.2.2.1 : (Nat → Int32)) (p582.2.2.2.2.2.2.1 : Int32) (p582.2.2.2.2.2.2.2.1 : Int32) (p582.2.2.2.2.2.2.2.2 : (Nat → Int32)) ((F_NH_keepDecimal x5 (p582.2.1 : Int64) (p582.2.2.1 : Int32) (p582.2.2.2.1 : Int32) (p582.2.2.2.2.1 : Int32) (p582.2.2.2.2.2.1 : (Nat → Int32)) t9_0 t9_1 t10_0 t14_0 t14_1 t15_0 t15_1 t16_0) : (Int32 × Int32 × Int32 × (Nat → Int32) × Int32 × Int32 × Int32 × Int32 × (Nat → Int32))))) else (True)
def S_NH_decimal_ab_c139_11 (x2 : Int32) (x3 : Int32) (x4 : Int32) (x5 : Int32) (t0_0 : Int64) (t0_1 : Int32) (t1_0 : Int32) (t1_1 : Int32) (t2_0 : (Nat → Int32)) (t3_0 : Int32) (t3_1 : Int32) (t4_0 : (Nat → Int32)) (t5_0 : Int32) (t5_1 : Int32) (t6_0 : (Nat → Int32)) (t7_0 : Int32) (t7_1 : Int32) (t8_0 : (Nat → Int32)) (t9_0 : Int32) (t9_1 : Int32) (t10_0 : (Nat → Int32)) (t11_0 : Int32) (t11_1 : Int32) (t12_0 : Int32) (t12_1 : Int32) (t13_0 : (Nat → Int32)) (t14_0 : Int32) (t14_1 : Int32) (t15_0 : Int32) (t15_1 : Int32) (t16_0 : (Nat → Int32)) (lx71 : Int32) (p726 : (Int32 × Int64 × Int32 × Int32 × Int32 × (Nat → Int32) × Int32 × Int32 × (Nat → Int32))) (y697 : Int64) (y698 : Int32) (y700 : Int32) (y701 : Int32) (f702 : (Nat → Int32)) (y705 : Int32) (y706 : Int32) (f707 : (Nat → Int32)) (p772 : (Int32 × Int32 × Int32 × (Nat → Int32) × Int32 × Int32 × Int32 × Int32 × (Nat → Int32))) : Prop := if p772.1 = (0 : Int32) then (True) else (True)
def S_NH_decimal_ab_c78_10 (x2 : Int32) (x3 : Int32) (x4 : Int32) (x5 : Int32) (t0_0 : Int64) (t0_1 : Int32) (t1_0 : Int32) (t1_1 : Int32) (t2_0 : (Nat → Int32)) (t3_0 : Int32) (t3_1 : Int32) (t4_0 : (Nat → Int32)) (t5_0 : Int32) (t5_1 : Int32) (t6_0 : (Nat → Int32)) (t7_0 : Int32) (t7_1 : Int32) (t8_0 : (Nat → Int32)) (t9_0 : Int32) (t9_1 : Int32) (t10_0 : (Nat → Int32)) (t11_0 : Int32) (t11_1 : Int32) (t12_0 : Int32) (t12_1 : Int32) (t13_0 : (Nat → Int32)) (t14_0 : Int32) (t14_1 : Int32) (t15_0 : Int32) (t15_1 : Int32) (t16_0 : (Nat → Int32)) (lx71 : Int32) (p726 : (Int32 × Int64 × Int32 × Int32 × Int32 × (Nat → Int32) × Int32 × Int32 × (Nat → Int32))) : Prop := if (F_NH_canHave (p726.1 : Int32)) = (0 : Int32) then ((True ∧ S_NH_keepDecimal x5 (p726.2.1 : Int64) (p726.2.2.1 : Int32) (p726.2.2.2.1 : Int32) (p726.2.2.2.2.1 : Int32) (p726.2.2.2.2.2.1 : (Nat → Int32)) t9_0 t9_1 t10_0 t14_0 t14_1 t15_0 t15_1 t16_0) ∧ (S_NH_decimal_ab_c139_11 x2 x3 x4 x5 t0_0 t0_1 t1_0 t1_1 t2_0 t3_0 t3_1 t4_0 t5_0 t5_1 t6_0 t7_0 t7_1 t8_0 t9_0 t9_1 t10_0 t11_0 t11_1 t12_0 t12_1 t13_0 t14_0 t14_1 t15_0 t15_1 t16_0 lx71 p726 (p726.2.1 : Int64) (p726.2.2.1 : Int32) (p726.2.2.2.1 : Int32) (p726.2.2.2.2.1 : Int32) (p726.2.2.2.2.2.1 : (Nat → Int32)) (p726.2.2.2.2.2.2.1 : Int32) (p726.2.2.2.2.2.2.2.1 : Int32) (p726.2.2.2.2.2.2.2.2 : (Nat → Int32)) ((F_NH_keepDecimal x5 (p726.2.1 : Int64) (p726.2.2.1 : Int32) (p726.2.2.2.1 : Int32) (p726.2.2.2.2.1 : Int32) (p726.2.2.2.2.2.1 : (Nat → Int32)) t9_0 t9_1 t10_0 t14_0 t14_1 t15_0 t15_1 t16_0) : (Int32 × Int32 × Int32 × (Nat → Int32) × Int32 × Int32 × Int32 × Int32 × (Nat → Int32))))) else (True)
def S_NH_decimal_ab_J36 (x2 : Int32) (x3 : Int32) (x4 : Int32) (x5 : Int32) (t0_0 : Int64) (t0_1 : Int32) (t1_0 : Int32) (t1_1 : Int32) (t2_0 : (Nat → Int32)) (t3_0 : Int32) (t3_1 : Int32) (t4_0 : (Nat → Int32)) (t5_0 : Int32) (t5_1 : Int32) (t6_0 : (Nat → Int32)) (t7_0 : Int32) (t7_1 : Int32) (t8_0 : (Nat → Int32)) (t9_0 : Int32) (t9_1 : Int32) (t10_0 : (Nat → Int32)) (t11_0 : Int32) (t11_1 : Int32) (t12_0 : Int32) (t12_1 : Int32) (t13_0 : (Nat → Int32)) (t14_0 : Int32) (t14_1 : Int32) (t15_0 : Int32) (t15_1 : Int32) (t16_0 : (Nat → Int32)) (lx71 : Int32) : Prop := if (F_NH_need lx71) = (0 : Int32) then ((0 ≤ x3.toInt) ∧ ((x3.toInt ≤ 9) ∧ ((0 ≤ x4.toInt) ∧ ((x4.toInt ≤ 9) ∧ (if (1 : Int32) < x2 then (if x2 = (2 : Int32) then (S_NH_decimal_ab_c100 x2 x3 x4 x5 t0_0 t0_1 t1_0 t1_1 t2_0 t3_0 t3_1 t4_0 t5_0 t5_1 t6_0 t7_0 t7_1 t8_0 t9_0 t9_1 t10_0 t11_0 t11_1 t12_0 t12_1 t13_0 t14_0 t14_1 t15_0 t15_1 t16_0 lx71 ((F_DW_multiply (108 : Int32) (108 : Int32) t0_0 t0_1 t1_0 t1_1 t2_0 t11_0 t11_1 t12_0 t12_1 t13_0 t11_0 t11_1 t12_0 t12_1 t13_0) : (Int64 × Int32 × Int32 × Int32 × (Nat → Int32)))) else (if t12_0 ≤ (0 : Int32) then (if (F_NH_canHave (0 : Int32)) = (0 : Int32) then ((True ∧ S_DW_rest_a (108 : Int32) t0_0 t0_1 t1_0 t1_1 t2_0 t3_0 t3_1 t4_0 t5_0 t5_1 t6_0 t7_0 t7_1 t8_0 t11_0 t11_1 t12_0 t12_1 t13_0) ∧ (S_NH_decimal_ab_c133 x2 x3 x4 x5 t0_0 t0_1 t1_0 t1_1 t2_0 t3_0 t3_1 t4_0 t5_0 t5_1 t6_0 t7_0 t7_1 t8_0 t9_0 t9_1 t10_0 t11_0 t11_1 t12_0 t12_1 t13_0 t14_0 t14_1 t15_0 t15_1 t16_0 lx71 ((F_DW_rest_a (108 : Int32) t0_0 t0_1 t1_0 t1_1 t2_0 t3_0 t3_1 t4_0 t5_0 t5_1 t6_0 t7_0 t7_1 t8_0 t11_0 t11_1 t12_0 t12_1 t13_0) : (Int64 × Int32 × Int32 × Int32 × (Nat → Int32) × Int32 × Int32 × (Nat → Int32) × Int32 × Int32 × (Nat → Int32))))) else (True)) else (if (F_NH_canHave (1 : Int32)) = (0 : Int32) then ((True ∧ S_DW_rest_a (108 : Int32) t0_0 t0_1 t1_0 t1_1 t2_0 t3_0 t3_1 t4_0 t5_0 t5_1 t6_0 t7_0 t7_1 t8_0 t11_0 t11_1 t12_0 t12_1 t13_0) ∧ (S_NH_decimal_ab_c133_4 x2 x3 x4 x5 t0_0 t0_1 t1_0 t1_1 t2_0 t3_0 t3_1 t4_0 t5_0 t5_1 t6_0 t7_0 t7_1 t8_0 t9_0 t9_1 t10_0 t11_0 t11_1 t12_0 t12_1 t13_0 t14_0 t14_1 t15_0 t15_1 t16_0 lx71 ((F_DW_rest_a (108 : Int32) t0_0 t0_1 t1_0 t1_1 t2_0 t3_0 t3_1 t4_0 t5_0 t5_1 t6_0 t7_0 t7_1 t8_0 t11_0 t11_1 t12_0 t12_1 t13_0) : (Int64 × Int32 × Int32 × Int32 × (Nat → Int32) × Int32 × Int32 × (Nat → Int32) × Int32 × Int32 × (Nat → Int32))))) else (True)))) else (if x2 = (1 : Int32) then (S_NH_decimal_ab_c78_10 x2 x3 x4 x5 t0_0 t0_1 t1_0 t1_1 t2_0 t3_0 t3_1 t4_0 t5_0 t5_1 t6_0 t7_0 t7_1 t8_0 t9_0 t9_1 t10_0 t11_0 t11_1 t12_0 t12_1 t13_0 t14_0 t14_1 t15_0 t15_1 t16_0 lx71 ((F_DW_sum (108 : Int32) (108 : Int32) (1 : Int32) t0_0 t0_1 t1_0 t1_1 t2_0 t5_0 t5_1 t6_0 t11_0 t11_1 t12_0 t12_1 t13_0 t11_0 t11_1 t12_0 t12_1 t13_0) : (Int32 × Int64 × Int32 × Int32 × Int32 × (Nat → Int32) × Int32 × Int32 × (Nat → Int32)))) else (S_NH_decimal_ab_c78 x2 x3 x4 x5 t0_0 t0_1 t1_0 t1_1 t2_0 t3_0 t3_1 t4_0 t5_0 t5_1 t6_0 t7_0 t7_1 t8_0 t9_0 t9_1 t10_0 t11_0 t11_1 t12_0 t12_1 t13_0 t14_0 t14_1 t15_0 t15_1 t16_0 lx71 ((F_DW_sum (108 : Int32) (108 : Int32) (0 : Int32) t0_0 t0_1 t1_0 t1_1 t2_0 t5_0 t5_1 t6_0 t11_0 t11_1 t12_0 t12_1 t13_0 t11_0 t11_1 t12_0 t12_1 t13_0) : (Int32 × Int64 × Int32 × Int32 × Int32 × (Nat → Int32) × Int32 × Int32 × (Nat → Int32)))))))))) else (True)
def S_NH_decimal_ab_J35 (x2 : Int32) (x3 : Int32) (x4 : Int32) (x5 : Int32) (t0_0 : Int64) (t0_1 : Int32) (t1_0 : Int32) (t1_1 : Int32) (t2_0 : (Nat → Int32)) (t3_0 : Int32) (t3_1 : Int32) (t4_0 : (Nat → Int32)) (t5_0 : Int32) (t5_1 : Int32) (t6_0 : (Nat → Int32)) (t7_0 : Int32) (t7_1 : Int32) (t8_0 : (Nat → Int32)) (t9_0 : Int32) (t9_1 : Int32) (t10_0 : (Nat → Int32)) (t11_0 : Int32) (t11_1 : Int32) (t12_0 : Int32) (t12_1 : Int32) (t13_0 : (Nat → Int32)) (t14_0 : Int32) (t14_1 : Int32) (t15_0 : Int32) (t15_1 : Int32) (t16_0 : (Nat → Int32)) : Prop := S_NH_decimal_ab_J36 x2 x3 x4 x5 t0_0 t0_1 t1_0 t1_1 t2_0 t3_0 t3_1 t4_0 t5_0 t5_1 t6_0 t7_0 t7_1 t8_0 t9_0 t9_1 t10_0 t11_0 t11_1 t12_0 t12_1 t13_0 t14_0 t14_1 t15_0 t15_1 t16_0 0
def S_NH_decimal_ab (x2 : Int32) (x3 : Int32) (x4 : Int32) (x5 : Int32) (t0_0 : Int64) (t0_1 : Int32) (t1_0 : Int32) (t1_1 : Int32) (t2_0 : (Nat → Int32)) (t3_0 : Int32) (t3_1 : Int32) (t4_0 : (Nat → Int32)) (t5_0 : Int32) (t5_1 : Int32) (t6_0 : (Nat → Int32)) (t7_0 : Int32) (t7_1 : Int32) (t8_0 : (Nat → Int32)) (t9_0 : Int32) (t9_1 : Int32) (t10_0 : (Nat → Int32)) (t11_0 : Int32) (t11_1 : Int32) (t12_0 : Int32) (t12_1 : Int32) (t13_0 : (Nat → Int32)) (t14_0 : Int32) (t14_1 : Int32) (t15_0 : Int32) (t15_1 : Int32) (t16_0 : (Nat → Int32)) : Prop := if x2 < (0 : Int32) then (S_NH_decimal_ab_J35 x2 x3 x4 x5 t0_0 t0_1 t1_0 t1_1 t2_0 t3_0 t3_1 t4_0 t5_0 t5_1 t6_0 t7_0 t7_1 t8_0 t9_0 t9_1 t10_0 t11_0 t11_1 t12_0 t12_1 t13_0 t14_0 t14_1 t15_0 t15_1 t16_0) else (if (3 : Int32) < x2 then (S_NH_decimal_ab_J35 x2 x3 x4 x5 t0_0 t0_1 t1_0 t1_1 t2_0 t3_0 t3_1 t4_0 t5_0 t5_1 t6_0 t7_0 t7_1 t8_0 t9_0 t9_1 t10_0 t11_0 t11_1 t12_0 t12_1 t13_0 t14_0 t14_1 t15_0 t15_1 t16_0) else (if ((F_NH_isRegister x3) : Int32) = (0 : Int32) then (S_NH_decimal_ab_J35 x2 x3 x4 x5 t0_0 t0_1 t1_0 t1_1 t2_0 t3_0 t3_1 t4_0 t5_0 t5_1 t6_0 t7_0 t7_1 t8_0 t9_0 t9_1 t10_0 t11_0 t11_1 t12_0 t12_1 t13_0 t14_0 t14_1 t15_0 t15_1 t16_0) else (if ((F_NH_isRegister x4) : Int32) = (0 : Int32) then (S_NH_decimal_ab_J35 x2 x3 x4 x5 t0_0 t0_1 t1_0 t1_1 t2_0 t3_0 t3_1 t4_0 t5_0 t5_1 t6_0 t7_0 t7_1 t8_0 t9_0 t9_1 t10_0 t11_0 t11_1 t12_0 t12_1 t13_0 t14_0 t14_1 t15_0 t15_1 t16_0) else (if ((F_NH_isRegister x5) : Int32) = (0 : Int32) then (S_NH_decimal_ab_J35 x2 x3 x4 x5 t0_0 t0_1 t1_0 t1_1 t2_0 t3_0 t3_1 t4_0 t5_0 t5_1 t6_0 t7_0 t7_1 t8_0 t9_0 t9_1 t10_0 t11_0 t11_1 t12_0 t12_1 t13_0 t14_0 t14_1 t15_0 t15_1 t16_0) else (S_NH_decimal_ab_J36 x2 x3 x4 x5 t0_0 t0_1 t1_0 t1_1 t2_0 t3_0 t3_1 t4_0 t5_0 t5_1 t6_0 t7_0 t7_1 t8_0 t9_0 t9_1 t10_0 t11_0 t11_1 t12_0 t12_1 t13_0 t14_0 t14_1 t15_0 t15_1 t16_0 1)))))
set_option maxRecDepth 100000 in
set_option maxHeartbeats 4000000 in
theorem X_NH_decimal_ab (l : Launch) (D : va_G) (g : Nat → ClassId) (q : Nat → Nat) (ws : va_W) (x2 : Int32) (x3 : Int32) (x4 : Int32) (x5 : Int32) (d3 : Nat) (hBd3 : q_isDec (nsh g q) g q d3 108) (yd3 : 66 ≤ d3) (gd3x3 : x3.toNatClampNeg < 10 → d3 = 68 + 5 * x3.toNatClampNeg) (gd3x4 : x4.toNatClampNeg < 10 → d3 = 68 + 5 * x4.toNatClampNeg) (d5 : Nat) (hBd5 : q_isDec (nsh g q) g q d5 108) (yd5 : 66 ≤ d5) (gd5x5 : x5.toNatClampNeg < 10 → d5 = 68 + 5 * x5.toNatClampNeg) (ne_d3_d5 : d3 ≠ d5) (ne_d3_d5p1 : d3 ≠ d5 + 1) (ne_d5_d3p1 : d5 ≠ d3 + 1) (ne_d3_d5p2 : d3 ≠ d5 + 2) (ne_d5_d3p2 : d5 ≠ d3 + 2) (hlt : l.stackTraces = false) (hI : q_I (nsh g q) q ws) (t0_0 : Int64) (t0_1 : Int32) (hT0 : ws[30]? = (some (q 30, .inr (5, [.ref (q 31), .long t0_0, .ref (q 9), .int t0_1])) : Option (Nat × va_E))) (t1_0 : Int32) (t1_1 : Int32) (hT1 : ws[10]? = (some (q 10, .inr (2, [.ref (q 11), .int t1_0, .int t1_1])) : Option (Nat × va_E))) (t2_0 : (Nat → Int32)) (hT2 : ws[11]? = (some (q 11, .inl (g 0, (220 : Int32).toNatClampNeg, .inl t2_0)) : Option (Nat × va_E))) (t3_0 : Int32) (t3_1 : Int32) (hT3 : ws[12]? = (some (q 12, .inr (2, [.ref (q 13), .int t3_0, .int t3_1])) : Option (Nat × va_E))) (t4_0 : (Nat → Int32)) (hT4 : ws[13]? = (some (q 13, .inl (g 0, (220 : Int32).toNatClampNeg, .inl t4_0)) : Option (Nat × va_E))) (t5_0 : Int32) (t5_1 : Int32) (hT5 : ws[22]? = (some (q 22, .inr (2, [.ref (q 23), .int t5_0, .int t5_1])) : Option (Nat × va_E))) (t6_0 : (Nat → Int32)) (hT6 : ws[23]? = (some (q 23, .inl (g 0, (220 : Int32).toNatClampNeg, .inl t6_0)) : Option (Nat × va_E))) (t7_0 : Int32) (t7_1 : Int32) (hT7 : ws[24]? = (some (q 24, .inr (2, [.ref (q 25), .int t7_0, .int t7_1])) : Option (Nat × va_E))) (t8_0 : (Nat → Int32)) (hT8 : ws[25]? = (some (q 25, .inl (g 0, (220 : Int32).toNatClampNeg, .inl t8_0)) : Option (Nat × va_E))) (t9_0 : Int32) (t9_1 : Int32) (hT9 : ws[20]? = (some (q 20, .inr (2, [.ref (q 21), .int t9_0, .int t9_1])) : Option (Nat × va_E))) (t10_0 : (Nat → Int32)) (hT10 : ws[21]? = (some (q 21, .inl (g 0, (220 : Int32).toNatClampNeg, .inl t10_0)) : Option (Nat × va_E))) (t11_0 : Int32) (t11_1 : Int32) (hT11 : ws[d3]? = (some (q d3, .inr (3, [.ref (q (d3 + 1)), .int t11_0, .int t11_1])) : Option (Nat × va_E))) (t12_0 : Int32) (t12_1 : Int32) (hT12 : ws[d3 + 1]? = (some (q (d3 + 1), .inr (2, [.ref (q (d3 + 2)), .int t12_0, .int t12_1])) : Option (Nat × va_E))) (t13_0 : (Nat → Int32)) (hT13 : ws[d3 + 2]? = (some (q (d3 + 2), .inl (g 0, (108 : Int32).toNatClampNeg, .inl t13_0)) : Option (Nat × va_E))) (t14_0 : Int32) (t14_1 : Int32) (hT14 : ws[d5]? = (some (q d5, .inr (3, [.ref (q (d5 + 1)), .int t14_0, .int t14_1])) : Option (Nat × va_E))) (t15_0 : Int32) (t15_1 : Int32) (hT15 : ws[d5 + 1]? = (some (q (d5 + 1), .inr (2, [.ref (q (d5 + 2)), .int t15_0, .int t15_1])) : Option (Nat × va_E))) (t16_0 : (Nat → Int32)) (hT16 : ws[d5 + 2]? = (some (q (d5 + 2), .inl (g 0, (108 : Int32).toNatClampNeg, .inl t16_0)) : Option (Nat × va_E))) (hS : True ∧ S_NH_decimal_ab x2 x3 x4 x5 t0_0 t0_1 t1_0 t1_1 t2_0 t3_0 t3_1 t4_0 t5_0 t5_1 t6_0 t7_0 t7_1 t8_0 t9_0 t9_1 t10_0 t11_0 t11_1 t12_0 t12_1 t13_0 t14_0 t14_1 t15_0 t15_1 t16_0) : ∀ sz, q_Mx l y_NH_decimal prog_1_method_11_code 7 none 9 3 18 D g [.ref (q 0), .int x2, .int x3, .int x4, .int x5] ws sz (va_Qv (fun u => q_I (nsh g q) q u ∧ q_un ws u [10, 11, 12, 13, 20, 21, 22, 23, 30, d5, d5 + 1, d5 + 2] ∧ ∃ (u0_0 : Int64) (u0_1 : Int32) (u1_0 : Int32) (u1_1 : Int32) (u2_0 : (Nat → Int32)) (u3_0 : Int32) (u3_1 : Int32) (u4_0 : (Nat → Int32)) (u5_0 : Int32) (u5_1 : Int32) (u6_0 : (Nat → Int32)) (u9_0 : Int32) (u9_1 : Int32) (u10_0 : (Nat → Int32)) (u14_0 : Int32) (u14_1 : Int32) (u15_0 : Int32) (u15_1 : Int32) (u16_0 : (Nat → Int32)), u[30]? = (some (q 30, .inr (5, [.ref (q 31), .long u0_0, .ref (q 9), .int u0_1])) : Option (Nat × va_E)) ∧ u[10]? = (some (q 10, .inr (2, [.ref (q 11), .int u1_0, .int u1_1])) : Option (Nat × va_E)) ∧ u[11]? = (some (q 11, .inl (g 0, (220 : Int32).toNatClampNeg, .inl u2_0)) : Option (Nat × va_E)) ∧ u[12]? = (some (q 12, .inr (2, [.ref (q 13), .int u3_0, .int u3_1])) : Option (Nat × va_E)) ∧ u[13]? = (some (q 13, .inl (g 0, (220 : Int32).toNatClampNeg, .inl u4_0)) : Option (Nat × va_E)) ∧ u[22]? = (some (q 22, .inr (2, [.ref (q 23), .int u5_0, .int u5_1])) : Option (Nat × va_E)) ∧ u[23]? = (some (q 23, .inl (g 0, (220 : Int32).toNatClampNeg, .inl u6_0)) : Option (Nat × va_E)) ∧ u[20]? = (some (q 20, .inr (2, [.ref (q 21), .int u9_0, .int u9_1])) : Option (Nat × va_E)) ∧ u[21]? = (some (q 21, .inl (g 0, (220 : Int32).toNatClampNeg, .inl u10_0)) : Option (Nat × va_E)) ∧ u[d5]? = (some (q d5, .inr (3, [.ref (q (d5 + 1)), .int u14_0, .int u14_1])) : Option (Nat × va_E)) ∧ u[d5 + 1]? = (some (q (d5 + 1), .inr (2, [.ref (q (d5 + 2)), .int u15_0, .int u15_1])) : Option (Nat × va_E)) ∧ u[d5 + 2]? = (some (q (d5 + 2), .inl (g 0, (108 : Int32).toNatClampNeg, .inl u16_0)) : Option (Nat × va_E)) ∧ (0 ≤ u0_0.toInt + 20000) ∧ (u0_0.toInt ≤ 20000) ∧ (0 ≤ u0_1.toInt) ∧ (u0_1.toInt ≤ 1) ∧ (0 ≤ u1_0.toInt) ∧ (u1_0.toInt ≤ 220) ∧ (0 ≤ u1_1.toInt) ∧ (u1_1.toInt ≤ 1) ∧ (0 ≤ u3_0.toInt) ∧ (u3_0.toInt ≤ 220) ∧ (0 ≤ u3_1.toInt) ∧ (u3_1.toInt ≤ 1) ∧ (0 ≤ u5_0.toInt) ∧ (u5_0.toInt ≤ 220) ∧ (0 ≤ u5_1.toInt) ∧ (u5_1.toInt ≤ 2) ∧ (0 ≤ u9_0.toInt) ∧ (u9_0.toInt ≤ 220) ∧ (0 ≤ u9_1.toInt) ∧ (u9_1.toInt ≤ 1) ∧ (0 ≤ u14_0.toInt + 10000) ∧ (u14_0.toInt ≤ 10000) ∧ (1 ≤ u14_1.toInt) ∧ (u14_1.toInt ≤ 1000) ∧ (0 ≤ u15_0.toInt) ∧ (u15_0.toInt ≤ 108) ∧ (0 ≤ u15_1.toInt) ∧ (u15_1.toInt ≤ 1) ∧ (x3.toInt ≤ u0_0.toInt + 20009) ∧ (u0_0.toInt ≤ x3.toInt + 20000) ∧ (x4.toInt ≤ u0_0.toInt + 20009) ∧ (u0_0.toInt ≤ x4.toInt + 20000) ∧ (t11_0.toInt ≤ u0_0.toInt + 10000) ∧ (u0_0.toInt ≤ t11_0.toInt + 20000) ∧ (x3.toInt ≤ u0_1.toInt + 9) ∧ (u0_1.toInt ≤ x3.toInt + 1) ∧ (x4.toInt ≤ u0_1.toInt + 9) ∧ (u0_1.toInt ≤ x4.toInt + 1) ∧ (t0_1.toInt ≤ u0_1.toInt) ∧ (u0_1.toInt ≤ t0_1.toInt) ∧ (x3.toInt ≤ u1_0.toInt + 9) ∧ (u1_0.toInt ≤ x3.toInt + 220) ∧ (x4.toInt ≤ u1_0.toInt + 9) ∧ (u1_0.toInt ≤ x4.toInt + 220) ∧ (x3.toInt ≤ u1_1.toInt + 9) ∧ (u1_1.toInt ≤ x3.toInt + 1) ∧ (x4.toInt ≤ u1_1.toInt + 9) ∧ (u1_1.toInt ≤ x4.toInt + 1) ∧ (x3.toInt ≤ u3_0.toInt + 9) ∧ (u3_0.toInt ≤ x3.toInt + 220) ∧ (x4.toInt ≤ u3_0.toInt + 9) ∧ (u3_0.toInt ≤ x4.toInt + 220) ∧ (x3.toInt ≤ u3_1.toInt + 9) ∧ (u3_1.toInt ≤ x3.toInt + 1) ∧ (x4.toInt ≤ u3_1.toInt + 9) ∧ (u3_1.toInt ≤ x4.toInt + 1) ∧ (u3_1.toInt ≤ t3_1.toInt) ∧ (x3.toInt ≤ u5_0.toInt + 9) ∧ (u5_0.toInt ≤ x3.toInt + 220) ∧ (x4.toInt ≤ u5_0.toInt + 9) ∧ (u5_0.toInt ≤ x4.toInt + 220) ∧ (x3.toInt ≤ u5_1.toInt + 9) ∧ (x4.toInt ≤ u5_1.toInt + 9) ∧ (u5_1.toInt ≤ t12_1.toInt + 1) ∧ (x3.toInt ≤ u9_0.toInt + 9) ∧ (u9_0.toInt ≤ x3.toInt + 220) ∧ (x4.toInt ≤ u9_0.toInt + 9) ∧ (u9_0.toInt ≤ x4.toInt + 220) ∧ (x5.toInt ≤ u9_0.toInt + 9) ∧ (u9_0.toInt ≤ x5.toInt + 220) ∧ (x3.toInt ≤ u9_1.toInt + 9) ∧ (u9_1.toInt ≤ x3.toInt + 1) ∧ (x4.toInt ≤ u9_1.toInt + 9) ∧ (u9_1.toInt ≤ x4.toInt + 1) ∧ (x5.toInt ≤ u9_1.toInt + 9) ∧ (u9_1.toInt ≤ x5.toInt + 1) ∧ (x3.toInt ≤ u14_0.toInt + 10009) ∧ (u14_0.toInt ≤ x3.toInt + 10000) ∧ (x4.toInt ≤ u14_0.toInt + 10009) ∧ (u14_0.toInt ≤ x4.toInt + 10000) ∧ (x5.toInt ≤ u14_0.toInt + 10009) ∧ (u14_0.toInt ≤ x5.toInt + 10000) ∧ (x3.toInt ≤ u14_1.toInt + 8) ∧ (u14_1.toInt ≤ x3.toInt + 1000) ∧ (x4.toInt ≤ u14_1.toInt + 8) ∧ (u14_1.toInt ≤ x4.toInt + 1000) ∧ (x5.toInt ≤ u14_1.toInt + 8) ∧ (u14_1.toInt ≤ x5.toInt + 1000) ∧ (x3.toInt ≤ u15_0.toInt + 9) ∧ (u15_0.toInt ≤ x3.toInt + 108) ∧ (x4.toInt ≤ u15_0.toInt + 9) ∧ (u15_0.toInt ≤ x4.toInt + 108) ∧ (x5.toInt ≤ u15_0.toInt + 9) ∧ (u15_0.toInt ≤ x5.toInt + 108) ∧ (x3.toInt ≤ u15_1.toInt + 9) ∧ (u15_1.toInt ≤ x3.toInt + 1) ∧ (x4.toInt ≤ u15_1.toInt + 9) ∧ (u15_1.toInt ≤ x4.toInt + 1) ∧ (x5.toInt ≤ u15_1.toInt + 9) ∧ (u15_1.toInt ≤ x5.toInt + 1) ∧ (u5_1.toInt ≤ u0_0.toInt + 20001) ∧ (u5_1.toInt ≤ u1_1.toInt + 1) ∧ ((0 : Int32), u0_0, u0_1, u1_0, u1_1, u2_0, u3_0, u3_1, u4_0, u5_0, u5_1, u6_0, u9_0, u9_1, u10_0, u14_0, u14_1, u15_0, u15_1, u16_0) = (F_NH_decimal_ab x2 x3 x4 x5 t0_0 t0_1 t1_0 t1_1 t2_0 t3_0 t3_1 t4_0 t5_0 t5_1 t6_0 t7_0 t7_1 t8_0 t9_0 t9_1 t10_0 t11_0 t11_1 t12_0 t12_1 t13_0 t14_0 t14_1 t15_0 t15_1 t16_0)) (q_B D g (va_A ws sz)) (va_A ws sz)) (fun E u => ∃ c : Int32, E = qE c ∧ c ≠ 0 ∧ q_I (nsh g q) q u ∧ q_un ws u [10, 11, 12, 13, 20, 21, 22, 23, 30, d5, d5 + 1, d5 + 2] ∧ ∃ (u0_0 : Int64) (u0_1 : Int32) (u1_0 : Int32) (u1_1 : Int32) (u2_0 : (Nat → Int32)) (u3_0 : Int32) (u3_1 : Int32) (u4_0 : (Nat → Int32)) (u5_0 : Int32) (u5_1 : Int32) (u6_0 : (Nat → Int32)) (u9_0 : Int32) (u9_1 : Int32) (u10_0 : (Nat → Int32)) (u14_0 : Int32) (u14_1 : Int32) (u15_0 : Int32) (u15_1 : Int32) (u16_0 : (Nat → Int32)), u[30]? = (some (q 30, .inr (5, [.ref (q 31), .long u0_0, .ref (q 9), .int u0_1])) : Option (Nat × va_E)) ∧ u[10]? = (some (q 10, .inr (2, [.ref (q 11), .int u1_0, .int u1_1])) : Option (Nat × va_E)) ∧ u[11]? = (some (q 11, .inl (g 0, (220 : Int32).toNatClampNeg, .inl u2_0)) : Option (Nat × va_E)) ∧ u[12]? = (some (q 12, .inr (2, [.ref (q 13), .int u3_0, .int u3_1])) : Option (Nat × va_E)) ∧ u[13]? = (some (q 13, .inl (g 0, (220 : Int32).toNatClampNeg, .inl u4_0)) : Option (Nat × va_E)) ∧ u[22]? = (some (q 22, .inr (2, [.ref (q 23), .int u5_0, .int u5_1])) : Option (Nat × va_E)) ∧ u[23]? = (some (q 23, .inl (g 0, (220 : Int32).toNatClampNeg, .inl u6_0)) : Option (Nat × va_E)) ∧ u[20]? = (some (q 20, .inr (2, [.ref (q 21), .int u9_0, .int u9_1])) : Option (Nat × va_E)) ∧ u[21]? = (some (q 21, .inl (g 0, (220 : Int32).toNatClampNeg, .inl u10_0)) : Option (Nat × va_E)) ∧ u[d5]? = (some (q d5, .inr (3, [.ref (q (d5 + 1)), .int u14_0, .int u14_1])) : Option (Nat × va_E)) ∧ u[d5 + 1]? = (some (q (d5 + 1), .inr (2, [.ref (q (d5 + 2)), .int u15_0, .int u15_1])) : Option (Nat × va_E)) ∧ u[d5 + 2]? = (some (q (d5 + 2), .inl (g 0, (108 : Int32).toNatClampNeg, .inl u16_0)) : Option (Nat × va_E)) ∧ (c, u0_0, u0_1, u1_0, u1_1, u2_0, u3_0, u3_1, u4_0, u5_0, u5_1, u6_0, u9_0, u9_1, u10_0, u14_0, u14_1, u15_0, u15_1, u16_0) = (F_NH_decimal_ab x2 x3 x4 x5 t0_0 t0_1 t1_0 t1_1 t2_0 t3_0 t3_1 t4_0 t5_0 t5_1 t6_0 t7_0 t7_1 t8_0 t9_0 t9_1 t10_0 t11_0 t11_1 t12_0 t12_1 t13_0 t14_0 t14_1 t15_0 t15_1 t16_0)) := by
  intro sz
  refine q_intoX (by decide) (Nat.le_of_ble_eq_true rfl) ?_
  intro p e s m below meth c ls hsz C0 V hno hl
  have hx := C0.1
  have hb := C0.2.1
  have btt0_1 := n_w30 hI hT0
  replace btt0_1 : q_F (0 ≤ t0_1.toInt ∧ t0_1.toInt ≤ 1) := btt0_1
  have btt1_1 := (q_bigW hI (n_b10 g q) hT1).2
  clear btt1_1
  obtain ⟨btt3_0, btt3_1⟩ := q_bigW hI (n_b12 g q) hT3
  replace btt3_0 : q_F (0 ≤ t3_0.toInt ∧ t3_0.toInt ≤ 220) := btt3_0
  replace btt3_1 : q_F (0 ≤ t3_1.toInt ∧ t3_1.toInt ≤ 1) := btt3_1
  obtain ⟨btt5_0, btt5_1⟩ := q_bigW hI (n_b22 g q) hT5
  replace btt5_0 : q_F (0 ≤ t5_0.toInt ∧ t5_0.toInt ≤ 220) := btt5_0
  replace btt5_1 : q_F (0 ≤ t5_1.toInt ∧ t5_1.toInt ≤ 1) := btt5_1
  have btt7_1 := (q_bigW hI (n_b24 g q) hT7).2
  clear btt7_1
  have btt9_1 := (q_bigW hI (n_b20 g q) hT9).2
  clear btt9_1
  have btt11_0 := (n_deW hI hBd3 hT11).1
  replace btt11_0 : q_F (-10000 ≤ t11_0.toInt ∧ t11_0.toInt ≤ 10000) := btt11_0
  have btt12_1 := (q_bigW hI hBd3.2 hT12).2
  replace btt12_1 : q_F (0 ≤ t12_1.toInt ∧ t12_1.toInt ≤ 1) := btt12_1
  have btt14_1 := (n_deW hI hBd5 hT14).2
  clear btt14_1
  have btt15_1 := (q_bigW hI hBd5.2 hT15).2
  clear btt15_1
  have hF : q_un ws ws [10, 11, 12, 13, 20, 21, 22, 23, 30, d5, d5 + 1, d5 + 2] := q_u0
  have hl : lv_has ls 7 [(0, .ref (q 0)), (1, .int x2), (2, .int x3), (3, .int x4), (4, .int x5)] := hl
  refine lv_iload_n hx hb d_1_11_0 rfl (lv_at hl 1 rfl) ?_
  refine q_join (X := Int32) (fun z H locs ls _ => q_F (0 ≤ z.toInt) ∧ q_F (z.toInt ≤ 1) ∧ q_Wd D g (va_A ws sz) s ws H locs ∧ lv_has ls 7 [(0, .ref (q 0)), (1, .int x2), (2, .int x3), (3, .int x4), (4, .int x5)] ∧ F_NH_decimal_ab_J36 x2 x3 x4 x5 t0_0 t0_1 t1_0 t1_1 t2_0 t3_0 t3_1 t4_0 t5_0 t5_1 t6_0 t7_0 t7_1 t8_0 t9_0 t9_1 t10_0 t11_0 t11_1 t12_0 t12_1 t13_0 t14_0 t14_1 t15_0 t15_1 t16_0 z = (F_NH_decimal_ab x2 x3 x4 x5 t0_0 t0_1 t1_0 t1_1 t2_0 t3_0 t3_1 t4_0 t5_0 t5_1 t6_0 t7_0 t7_1 t8_0 t9_0 t9_1 t10_0 t11_0 t11_1 t12_0 t12_1 t13_0 t14_0 t14_1 t15_0 t15_1 t16_0) ∧ True ∧ S_NH_decimal_ab_J36 x2 x3 x4 x5 t0_0 t0_1 t1_0 t1_1 t2_0 t3_0 t3_1 t4_0 t5_0 t5_1 t6_0 t7_0 t7_1 t8_0 t9_0 t9_1 t10_0 t11_0 t11_1 t12_0 t12_1 t13_0 t14_0 t14_1 t15_0 t15_1 t16_0 z) (fun z => [.int z]) 36 0 0 ?_ ?_
  ·
    rintro lx71 H locs ls _ hZ9
    obtain ⟨i90, hZ9⟩ := hZ9
    obtain ⟨i91, hZ9⟩ := hZ9
    obtain ⟨V, hZ9⟩ := hZ9
    obtain ⟨hl, hZ9⟩ := hZ9
    obtain ⟨hR92, hS93⟩ := hZ9
    replace i90 : q_F (0 ≤ lx71.toInt) := i90
    replace i91 : q_F (lx71.toInt ≤ 1) := i91
    replace hl : lv_has ls 7 [(0, .ref (q 0)), (1, .int x2), (2, .int x3), (3, .int x4), (4, .int x5)] := hl
    refine q_goxv V (q_runSX (As := [.int lx71]) (rest := []) (d := 7) (mc := 1) (ms := 6) C0 V rfl LS_NH_104 (X_NH_need l D g q ws  lx71 hlt hI  ⟨(by first | with_reducible exact q_fe i90 | (have t1 : 0 ≤ lx71.toInt := i90; omega)), (by first | with_reducible exact q_fe i91 | (have t1 : lx71.toInt ≤ 1 := i91; omega))⟩ _) rfl hl.1 rfl (Nat.le_of_ble_eq_true rfl) ⟨by decide, by decide⟩ ⟨Nat.le_of_ble_eq_true rfl, Nat.le_of_ble_eq_true rfl⟩ d_1_11_36) (fun qx Ex ce u97 H locs hp98 V hce hcv hcl => ?_) (fun u97 H locs hp98 V => ?_)
    ·
      obtain ⟨cx100, he101, hc102, rfl, hE99⟩ := hp98
      have c103 : ¬ (F_NH_need lx71) = (0 : Int32) := fun z => hc102 (((hE99) : cx100 = _).trans z)
      exact q_outT hno C0 V (⟨(F_NH_need lx71), (he101.trans (congrArg qE ((hE99) : cx100 = _))), c103, hI, hF, t0_0, t0_1, t1_0, t1_1, t2_0, t3_0, t3_1, t4_0, t5_0, t5_1, t6_0, t9_0, t9_1, t10_0, t14_0, t14_1, t15_0, t15_1, t16_0, hT0, hT1, hT2, hT3, hT4, hT5, hT6, hT9, hT10, hT14, hT15, hT16, (show ((F_NH_need lx71), t0_0, t0_1, t1_0, t1_1, t2_0, t3_0, t3_1, t4_0, t5_0, t5_1, t6_0, t9_0, t9_1, t10_0, t14_0, t14_1, t15_0, t15_1, t16_0) = (F_NH_decimal_ab x2 x3 x4 x5 t0_0 t0_1 t1_0 t1_1 t2_0 t3_0 t3_1 t4_0 t5_0 t5_1 t6_0 t7_0 t7_1 t8_0 t9_0 t9_1 t10_0 t11_0 t11_1 t12_0 t12_1 t13_0 t14_0 t14_1 t15_0 t15_1 t16_0) from Eq.trans (by rw [F_NH_decimal_ab_J36.eq_1, if_neg c103]) hR92)⟩) hce hcv hcl (Nat.le_of_ble_eq_true rfl) (Nat.le_of_ble_eq_true rfl)
    ·
      obtain ⟨rfl, hE104⟩ := hp98
      have c103 : (F_NH_need lx71) = (0 : Int32) := ((hE104) : (0 : Int32) = _).symm
      refine lv_aload_n hx hb d_1_11_39 rfl (lv_at hl 0 rfl) ?_
      have hO106 := n_o0 hI
      refine q_get (ci := 0) (j := 3) (v := .ref (q 6)) C0 V i_NH rfl rfl hO106 (by decide) w_427 rfl d_1_11_40 ?_
      refine lv_iload_n hx hb d_1_11_43 rfl (lv_at hl 2 rfl) ?_
      have hX107 := n_fx hI (n_s6 g q)
      have ob108 : q_F (0 ≤ x3.toInt) := (by have h := hS93; rw [S_NH_decimal_ab_J36.eq_1] at h; rw [if_pos c103] at h; exact h.2.1)
      have ob109 : q_F (x3.toInt ≤ 9) := (by have h := hS93; rw [S_NH_decimal_ab_J36.eq_1] at h; rw [if_pos c103] at h; replace h := q_s2 h; exact h.2.1)
      have hj110 : x3.toNatClampNeg < 10 := by have z := q_clI (i := x3) (x := x3.toInt) rfl (by first | with_reducible exact q_fe ob108 | (have t1 : 0 ≤ x3.toInt := ob108; omega)); have t1 : 0 ≤ x3.toInt := ob108; have t2 : x3.toInt ≤ 9 := ob109; omega
      have hq111 := gd3x3 hj110
      refine q_aald (t := 5) (q := q d3) C0 V hX107 rfl (q_ix (x := x3.toInt) rfl (by first | with_reducible exact q_fe ob108 | (have t1 : 0 ≤ x3.toInt := ob108; omega)) (by have t1 : 0 ≤ x3.toInt := ob108; have t2 : x3.toInt ≤ 9 := ob109; omega)) (by rw [hq111]; exact n_fdv hj110) d_1_11_44 ?_
      refine lv_astore (lv' := [(5, .ref (q d3)), (0, .ref (q 0)), (1, .int x2), (2, .int x3), (3, .int x4), (4, .int x5)]) hx hb d_1_11_45 hl (by decide) rfl (fun ls hl => ?_)
      refine lv_aload_n hx hb d_1_11_47 rfl (lv_at hl 1 rfl) ?_
      refine q_get (ci := 0) (j := 3) (v := .ref (q 6)) C0 V i_NH rfl rfl hO106 (by decide) w_427 rfl d_1_11_48 ?_
      refine lv_iload_n hx hb d_1_11_51 rfl (lv_at hl 4 rfl) ?_
      have hX112 := n_fx hI (n_s6 g q)
      have ob113 : q_F (0 ≤ x4.toInt) := (by have h := hS93; rw [S_NH_decimal_ab_J36.eq_1] at h; rw [if_pos c103] at h; replace h := q_s2 h; replace h := q_s2 h; exact h.2.1)
      have ob114 : q_F (x4.toInt ≤ 9) := (by have h := hS93; rw [S_NH_decimal_ab_J36.eq_1] at h; rw [if_pos c103] at h; replace h := q_s2 h; replace h := q_s2 h; replace h := q_s2 h; exact h.2.1)
      have hj115 : x4.toNatClampNeg < 10 := by have z := q_clI (i := x4) (x := x4.toInt) rfl (by first | with_reducible exact q_fe ob113 | (have t1 : 0 ≤ x4.toInt := ob113; omega)); have t1 : 0 ≤ x4.toInt := ob113; have t2 : x4.toInt ≤ 9 := ob114; omega
      have hq116 := gd3x4 hj115
      refine q_aald (t := 5) (q := q d3) C0 V hX112 rfl (q_ix (x := x4.toInt) rfl (by first | with_reducible exact q_fe ob113 | (have t1 : 0 ≤ x4.toInt := ob113; omega)) (by have t1 : 0 ≤ x4.toInt := ob113; have t2 : x4.toInt ≤ 9 := ob114; omega)) (by rw [hq116]; exact n_fdv hj115) d_1_11_52 ?_
      refine lv_astore (lv' := [(6, .ref (q d3)), (5, .ref (q d3)), (0, .ref (q 0)), (1, .int x2), (2, .int x3), (3, .int x4), (4, .int x5)]) hx hb d_1_11_53 hl (by decide) rfl (fun ls hl => ?_)
      refine lv_iload_n hx hb d_1_11_55 rfl (lv_at hl 3 rfl) ?_
      refine lv_iconst (v := 1) hx hb d_1_11_56 (by decide) ?_
      refine lv_icmp_gt (tgt := 87) hx hb d_1_11_57 (by decide) (fun c117 => ?_) (fun c117 => ?_)
      ·
        refine lv_iload_n hx hb d_1_11_87 rfl (lv_at hl 3 rfl) ?_
        refine lv_iconst (v := 2) hx hb d_1_11_88 (by decide) ?_
        refine lv_icmp_ne (tgt := 106) hx hb d_1_11_89 (by decide) (fun c119 => ?_) (fun c119 => ?_)
        ·
          refine lv_aload hx hb d_1_11_106 (lv_at hl 0 rfl) ?_
          refine q_get (ci := 3) (j := 0) (v := .ref (q (d3 + 1))) C0 V i_Dec rfl rfl hT11 (by decide) w_174 rfl d_1_11_108 ?_
          refine q_get (ci := 2) (j := 1) (v := .int t12_0) C0 V i_Big rfl rfl hT12 (by decide) w_91 rfl d_1_11_111 ?_
          refine lv_if_le (tgt := 121) hx hb d_1_11_114 (by decide) (fun c121 => ?_) (fun c121 => ?_)
          ·
            refine lv_iconst (v := 0) hx hb d_1_11_121 (by decide) ?_
            refine q_goxv V (q_runSX (As := [.int 0]) (rest := []) (d := 7) (mc := 1) (ms := 6) C0 V rfl LS_NH_138 (X_NH_canHave l D g q ws  0 hlt hI  ⟨(by have y0 : (0 : Int32).toInt = 0 := rfl; omega), (by have y0 : (0 : Int32).toInt = 0 := rfl; omega)⟩ _) rfl hl.1 rfl (Nat.le_of_ble_eq_true rfl) ⟨by decide, by decide⟩ ⟨Nat.le_of_ble_eq_true rfl, Nat.le_of_ble_eq_true rfl⟩ d_1_11_122) (fun qx Ex ce u123 H locs hp124 V hce hcv hcl => ?_) (fun u123 H locs hp124 V => ?_)
            ·
              obtain ⟨cx126, he127, hc128, rfl, hE125⟩ := hp124
              have c129 : ¬ (F_NH_canHave (0 : Int32)) = (0 : Int32) := fun z => hc128 (((hE125) : cx126 = _).trans z)
              exact q_outT hno C0 V (⟨(F_NH_canHave (0 : Int32)), (he127.trans (congrArg qE ((hE125) : cx126 = _))), c129, hI, hF, t0_0, t0_1, t1_0, t1_1, t2_0, t3_0, t3_1, t4_0, t5_0, t5_1, t6_0, t9_0, t9_1, t10_0, t14_0, t14_1, t15_0, t15_1, t16_0, hT0, hT1, hT2, hT3, hT4, hT5, hT6, hT9, hT10, hT14, hT15, hT16, (show ((F_NH_canHave (0 : Int32)), t0_0, t0_1, t1_0, t1_1, t2_0, t3_0, t3_1, t4_0, t5_0, t5_1, t6_0, t9_0, t9_1, t10_0, t14_0, t14_1, t15_0, t15_1, t16_0) = (F_NH_decimal_ab x2 x3 x4 x5 t0_0 t0_1 t1_0 t1_1 t2_0 t3_0 t3_1 t4_0 t5_0 t5_1 t6_0 t7_0 t7_1 t8_0 t9_0 t9_1 t10_0 t11_0 t11_1 t12_0 t12_1 t13_0 t14_0 t14_1 t15_0 t15_1 t16_0) from Eq.trans (by rw [F_NH_decimal_ab_J36.eq_1, if_pos c103, if_pos c117, if_neg c119, if_pos c121, if_neg c129]) hR92)⟩) hce hcv hcl (Nat.le_of_ble_eq_true rfl) (Nat.le_of_ble_eq_true rfl)
            ·
              obtain ⟨rfl, hE130⟩ := hp124
              have c129 : (F_NH_canHave (0 : Int32)) = (0 : Int32) := ((hE130) : (0 : Int32) = _).symm
              refine lv_aload_n hx hb d_1_11_125 rfl (lv_at hl 2 rfl) ?_
              refine q_get (ci := 0) (j := 7) (v := .ref (q 30)) C0 V i_NH rfl rfl hO106 (by decide) w_431 rfl d_1_11_126 ?_
              refine lv_aload hx hb d_1_11_129 (lv_at hl 1 rfl) ?_
              refine lv_aload hx hb d_1_11_131 (lv_at hl 0 rfl) ?_
              have ob132 : True ∧ S_DW_rest_a (108 : Int32) t0_0 t0_1 t1_0 t1_1 t2_0 t3_0 t3_1 t4_0 t5_0 t5_1 t6_0 t7_0 t7_1 t8_0 t11_0 t11_1 t12_0 t12_1 t13_0 := (by have h := hS93; rw [S_NH_decimal_ab_J36.eq_1] at h; rw [if_pos c103] at h; replace h := q_s2 h; replace h := q_s2 h; replace h := q_s2 h; replace h := q_s2 h; rw [if_pos c117] at h; rw [if_neg c119] at h; rw [if_pos c121] at h; rw [if_pos c129] at h; with_reducible exact h.2.1)
              refine q_gov V (q_runV (As := [.ref (q d3), .ref (q d3)]) (rest := []) (d := 5) (mc := 0) (ms := 0) (ci := 5) C0 V rfl LV_NH_278 (X_DW_rest_a l D g q ws d3 108 hBd3 (Or.inr yd3)  (by have z0 := yd3; omega) (by have z0 := yd3; omega) (by have z0 := yd3; omega) (by have z0 := yd3; omega) (by have z0 := yd3; omega) (by have z0 := yd3; omega) (by have z0 := yd3; omega) (by have z0 := yd3; omega) (by have z0 := yd3; omega) (by have z0 := yd3; omega) (by have z0 := yd3; omega) (by have z0 := yd3; omega) (by have z0 := yd3; omega) (by have z0 := yd3; omega) (by have z0 := yd3; omega) (by have z0 := yd3; omega) hI t0_0 t0_1 hT0 t1_0 t1_1 hT1 t2_0 hT2 t3_0 t3_1 hT3 t4_0 hT4 t5_0 t5_1 hT5 t6_0 hT6 t7_0 t7_1 hT7 t8_0 hT8 t11_0 t11_1 hT11 t12_0 t12_1 hT12 t13_0 hT13 ob132 _) rfl rfl hT0 rfl hl.1 rfl (Nat.le_of_ble_eq_true rfl) ⟨by decide, by decide⟩ ⟨Nat.le_of_ble_eq_true rfl, Nat.le_of_ble_eq_true rfl⟩ d_1_11_133) (fun u133 H locs hp134 V => ?_)
              obtain ⟨hI, hZ9⟩ := hp134
              obtain ⟨hu170, hZ9⟩ := hZ9
              obtain ⟨y136, hZ9⟩ := hZ9
              obtain ⟨y137, hZ9⟩ := hZ9
              obtain ⟨y139, hZ9⟩ := hZ9
              obtain ⟨y140, hZ9⟩ := hZ9
              obtain ⟨f141, hZ9⟩ := hZ9
              obtain ⟨y144, hZ9⟩ := hZ9
              obtain ⟨y145, hZ9⟩ := hZ9
              obtain ⟨f146, hZ9⟩ := hZ9
              obtain ⟨y149, hZ9⟩ := hZ9
              obtain ⟨y150, hZ9⟩ := hZ9
              obtain ⟨f151, hZ9⟩ := hZ9
              obtain ⟨hO135, hZ9⟩ := hZ9
              obtain ⟨hO138, hZ9⟩ := hZ9
              obtain ⟨hA142, hZ9⟩ := hZ9
              obtain ⟨hO143, hZ9⟩ := hZ9
              obtain ⟨hA147, hZ9⟩ := hZ9
              obtain ⟨hO148, hZ9⟩ := hZ9
              obtain ⟨hA152, hZ9⟩ := hZ9
              obtain ⟨b153, hZ9⟩ := hZ9
              obtain ⟨b154, hZ9⟩ := hZ9
              obtain ⟨b155, hZ9⟩ := hZ9
              obtain ⟨b156, hZ9⟩ := hZ9
              obtain ⟨b157, hZ9⟩ := hZ9
              obtain ⟨b158, hZ9⟩ := hZ9
              obtain ⟨b159, hZ9⟩ := hZ9
              obtain ⟨b160, hZ9⟩ := hZ9
              obtain ⟨b161, hZ9⟩ := hZ9
              obtain ⟨b162, hZ9⟩ := hZ9
              obtain ⟨b163, hZ9⟩ := hZ9
              obtain ⟨b164, hZ9⟩ := hZ9
              obtain ⟨b165, hZ9⟩ := hZ9
              obtain ⟨b166, hZ9⟩ := hZ9
              obtain ⟨b167, hZ9⟩ := hZ9
              obtain ⟨b168, hE169⟩ := hZ9
              replace hO135 : u133[30]? = (some (q 30, .inr (5, [.ref (q 31), .long y136, .ref (q 9), .int y137])) : Option (Nat × va_E)) := hO135
              replace hO138 : u133[10]? = (some (q 10, .inr (2, [.ref (q 11), .int y139, .int y140])) : Option (Nat × va_E)) := hO138
              replace hA142 : u133[11]? = (some (q 11, .inl (g 0, (220 : Int32).toNatClampNeg, .inl f141)) : Option (Nat × va_E)) := hA142
              replace hO143 : u133[12]? = (some (q 12, .inr (2, [.ref (q 13), .int y144, .int y145])) : Option (Nat × va_E)) := hO143
              replace hA147 : u133[13]? = (some (q 13, .inl (g 0, (220 : Int32).toNatClampNeg, .inl f146)) : Option (Nat × va_E)) := hA147
              replace hO148 : u133[22]? = (some (q 22, .inr (2, [.ref (q 23), .int y149, .int y150])) : Option (Nat × va_E)) := hO148
              replace hA152 : u133[23]? = (some (q 23, .inl (g 0, (220 : Int32).toNatClampNeg, .inl f151)) : Option (Nat × va_E)) := hA152
              obtain ⟨p171, e172⟩ : ∃ z, z = (F_DW_rest_a (108 : Int32) t0_0 t0_1 t1_0 t1_1 t2_0 t3_0 t3_1 t4_0 t5_0 t5_1 t6_0 t7_0 t7_1 t8_0 t11_0 t11_1 t12_0 t12_1 t13_0) := ⟨_, rfl⟩
              have e173 : y136 = p171.1 := congrArg (fun z => z.1) (hE169.trans e172.symm)
              have e174 : y137 = p171.2.1 := congrArg (fun z => z.2.1) (hE169.trans e172.symm)
              have e175 : y139 = p171.2.2.1 := congrArg (fun z => z.2.2.1) (hE169.trans e172.symm)
              have e176 : y140 = p171.2.2.2.1 := congrArg (fun z => z.2.2.2.1) (hE169.trans e172.symm)
              have e177 : f141 = p171.2.2.2.2.1 := congrArg (fun z => z.2.2.2.2.1) (hE169.trans e172.symm)
              have e178 : y144 = p171.2.2.2.2.2.1 := congrArg (fun z => z.2.2.2.2.2.1) (hE169.trans e172.symm)
              have e179 : y145 = p171.2.2.2.2.2.2.1 := congrArg (fun z => z.2.2.2.2.2.2.1) (hE169.trans e172.symm)
              have e180 : f146 = p171.2.2.2.2.2.2.2.1 := congrArg (fun z => z.2.2.2.2.2.2.2.1) (hE169.trans e172.symm)
              have e181 : y149 = p171.2.2.2.2.2.2.2.2.1 := congrArg (fun z => z.2.2.2.2.2.2.2.2.1) (hE169.trans e172.symm)
              have e182 : y150 = p171.2.2.2.2.2.2.2.2.2.1 := congrArg (fun z => z.2.2.2.2.2.2.2.2.2.1) (hE169.trans e172.symm)
              have e183 : f151 = p171.2.2.2.2.2.2.2.2.2.2 := congrArg (fun z => z.2.2.2.2.2.2.2.2.2.2) (hE169.trans e172.symm)
              replace b153 : q_F (0 ≤ y139.toInt) := b153
              replace b154 : q_F (y139.toInt ≤ 220) := b154
              replace b155 : q_F (0 ≤ y140.toInt) := b155
              replace b156 : q_F (0 ≤ y144.toInt) := b156
              replace b157 : q_F (y144.toInt ≤ 220) := b157
              replace b158 : q_F (0 ≤ y145.toInt) := b158
              replace b159 : q_F (0 ≤ y149.toInt) := b159
              replace b160 : q_F (y149.toInt ≤ 220) := b160
              replace b161 : q_F (0 ≤ y150.toInt) := b161
              replace b162 : q_F (t11_0.toInt ≤ y136.toInt) := b162
              replace b163 : q_F (y136.toInt ≤ t11_0.toInt) := b163
              replace b164 : q_F (t0_1.toInt ≤ y137.toInt) := b164
              replace b165 : q_F (y137.toInt ≤ t0_1.toInt) := b165
              replace b166 : q_F (y140.toInt ≤ t12_1.toInt) := b166
              replace b167 : q_F (y145.toInt ≤ t3_1.toInt) := b167
              replace b168 : q_F (y150.toInt ≤ y140.toInt + 1) := b168
              replace hT9 := (hu170 _ (by decide)).trans hT9
              replace hT10 := (hu170 _ (by decide)).trans hT10
              replace hT14 := (hu170 _ (by have z0 := yd5; simp only [List.mem_cons, List.not_mem_nil, or_false, not_or]; omega)).trans hT14
              replace hT15 := (hu170 _ (by have z0 := yd5; simp only [List.mem_cons, List.not_mem_nil, or_false, not_or]; omega)).trans hT15
              replace hT16 := (hu170 _ (by have z0 := yd5; simp only [List.mem_cons, List.not_mem_nil, or_false, not_or]; omega)).trans hT16
              replace hO106 := (hu170 _ (by decide)).trans hO106
              replace hF := q_uc hF hu170 (by simp)
              have hR184 := (show F_NH_decimal_ab_c133 x2 x3 x4 x5 t0_0 t0_1 t1_0 t1_1 t2_0 t3_0 t3_1 t4_0 t5_0 t5_1 t6_0 t7_0 t7_1 t8_0 t9_0 t9_1 t10_0 t11_0 t11_1 t12_0 t12_1 t13_0 t14_0 t14_1 t15_0 t15_1 t16_0 lx71 p171 = (F_NH_decimal_ab x2 x3 x4 x5 t0_0 t0_1 t1_0 t1_1 t2_0 t3_0 t3_1 t4_0 t5_0 t5_1 t6_0 t7_0 t7_1 t8_0 t9_0 t9_1 t10_0 t11_0 t11_1 t12_0 t12_1 t13_0 t14_0 t14_1 t15_0 t15_1 t16_0) from Eq.trans (by rw [e172, F_NH_decimal_ab_J36.eq_1, if_pos c103, if_pos c117, if_neg c119, if_pos c121, if_pos c129]) hR92)
              have hS185 := (show True ∧ S_NH_decimal_ab_c133 x2 x3 x4 x5 t0_0 t0_1 t1_0 t1_1 t2_0 t3_0 t3_1 t4_0 t5_0 t5_1 t6_0 t7_0 t7_1 t8_0 t9_0 t9_1 t10_0 t11_0 t11_1 t12_0 t12_1 t13_0 t14_0 t14_1 t15_0 t15_1 t16_0 lx71 p171 from (by rw [e172]; have h := hS93; rw [S_NH_decimal_ab_J36.eq_1] at h; rw [if_pos c103] at h; replace h := q_s2 h; replace h := q_s2 h; replace h := q_s2 h; replace h := q_s2 h; rw [if_pos c117] at h; rw [if_neg c119] at h; rw [if_pos c121] at h; rw [if_pos c129] at h; replace h := q_s2 h; with_reducible exact h))
              refine lv_aload_n hx hb d_1_11_136 rfl (lv_at hl 2 rfl) ?_
              refine lv_iload hx hb d_1_11_137 (lv_at hl 6 rfl) ?_
              have ob189 : True ∧ S_NH_keepDecimal x5 y136 y137 y139 y140 f141 t9_0 t9_1 t10_0 t14_0 t14_1 t15_0 t15_1 t16_0 := (by rw [e177, e176, e175, e174, e173]; have h := hS185; rw [S_NH_decimal_ab_c133.eq_1] at h; with_reducible exact h.2.1)
              refine q_goxv V (q_runVX (As := [.int x5]) (rest := []) (d := 8) (mc := 1) (ms := 6) (ci := 0) C0 V rfl LV_NH_281 (X_NH_keepDecimal l D g q u133  x5 d5 hBd5 yd5 gd5x5 hlt hI y136 y137 hO135 y139 y140 hO138 f141 hA142 t9_0 t9_1 hT9 t10_0 hT10 t14_0 t14_1 hT14 t15_0 t15_1 hT15 t16_0 hT16 ob189 _) rfl rfl hO106 rfl hl.1 rfl (Nat.le_of_ble_eq_true rfl) ⟨by decide, by decide⟩ ⟨Nat.le_of_ble_eq_true rfl, Nat.le_of_ble_eq_true rfl⟩ d_1_11_139) (fun qx Ex ce u190 H locs hp191 V hce hcv hcl => ?_) (fun u190 H locs hp191 V => ?_)
              ·
                obtain ⟨cx206, hZ9⟩ := hp191
                obtain ⟨he207, hZ9⟩ := hZ9
                obtain ⟨hc208, hZ9⟩ := hZ9
                obtain ⟨hI, hZ9⟩ := hZ9
                obtain ⟨hu209, hZ9⟩ := hZ9
                obtain ⟨y193, hZ9⟩ := hZ9
                obtain ⟨y194, hZ9⟩ := hZ9
                obtain ⟨f195, hZ9⟩ := hZ9
                obtain ⟨y198, hZ9⟩ := hZ9
                obtain ⟨y199, hZ9⟩ := hZ9
                obtain ⟨y201, hZ9⟩ := hZ9
                obtain ⟨y202, hZ9⟩ := hZ9
                obtain ⟨f203, hZ9⟩ := hZ9
                obtain ⟨hO192, hZ9⟩ := hZ9
                obtain ⟨hA196, hZ9⟩ := hZ9
                obtain ⟨hO197, hZ9⟩ := hZ9
                obtain ⟨hO200, hZ9⟩ := hZ9
                obtain ⟨hA204, hE205⟩ := hZ9
                replace hO192 : u190[20]? = (some (q 20, .inr (2, [.ref (q 21), .int y193, .int y194])) : Option (Nat × va_E)) := hO192
                replace hA196 : u190[21]? = (some (q 21, .inl (g 0, (220 : Int32).toNatClampNeg, .inl f195)) : Option (Nat × va_E)) := hA196
                replace hO197 : u190[d5]? = (some (q d5, .inr (3, [.ref (q (d5 + 1)), .int y198, .int y199])) : Option (Nat × va_E)) := hO197
                replace hO200 : u190[d5 + 1]? = (some (q (d5 + 1), .inr (2, [.ref (q (d5 + 2)), .int y201, .int y202])) : Option (Nat × va_E)) := hO200
                replace hA204 : u190[d5 + 2]? = (some (q (d5 + 2), .inl (g 0, (108 : Int32).toNatClampNeg, .inl f203)) : Option (Nat × va_E)) := hA204
                obtain ⟨p210, e211⟩ : ∃ z, z = (F_NH_keepDecimal x5 y136 y137 y139 y140 f141 t9_0 t9_1 t10_0 t14_0 t14_1 t15_0 t15_1 t16_0) := ⟨_, rfl⟩
                have c212 : ¬ p210.1 = (0 : Int32) := fun z => hc208 (((congrArg (fun z => z.1) (hE205.trans e211.symm)) : cx206 = _).trans z)
                have e213 : y193 = p210.2.1 := congrArg (fun z => z.2.1) (hE205.trans e211.symm)
                have e214 : y194 = p210.2.2.1 := congrArg (fun z => z.2.2.1) (hE205.trans e211.symm)
                have e215 : f195 = p210.2.2.2.1 := congrArg (fun z => z.2.2.2.1) (hE205.trans e211.symm)
                have e216 : y198 = p210.2.2.2.2.1 := congrArg (fun z => z.2.2.2.2.1) (hE205.trans e211.symm)
                have e217 : y199 = p210.2.2.2.2.2.1 := congrArg (fun z => z.2.2.2.2.2.1) (hE205.trans e211.symm)
                have e218 : y201 = p210.2.2.2.2.2.2.1 := congrArg (fun z => z.2.2.2.2.2.2.1) (hE205.trans e211.symm)
                have e219 : y202 = p210.2.2.2.2.2.2.2.1 := congrArg (fun z => z.2.2.2.2.2.2.2.1) (hE205.trans e211.symm)
                have e220 : f203 = p210.2.2.2.2.2.2.2.2 := congrArg (fun z => z.2.2.2.2.2.2.2.2) (hE205.trans e211.symm)
                replace hO135 := (hu209 _ (by have z0 := yd5; simp only [List.mem_cons, List.not_mem_nil, or_false, not_or]; omega)).trans hO135
                replace hO138 := (hu209 _ (by have z0 := yd5; simp only [List.mem_cons, List.not_mem_nil, or_false, not_or]; omega)).trans hO138
                replace hA142 := (hu209 _ (by have z0 := yd5; simp only [List.mem_cons, List.not_mem_nil, or_false, not_or]; omega)).trans hA142
                replace hO143 := (hu209 _ (by have z0 := yd5; simp only [List.mem_cons, List.not_mem_nil, or_false, not_or]; omega)).trans hO143
                replace hA147 := (hu209 _ (by have z0 := yd5; simp only [List.mem_cons, List.not_mem_nil, or_false, not_or]; omega)).trans hA147
                replace hO148 := (hu209 _ (by have z0 := yd5; simp only [List.mem_cons, List.not_mem_nil, or_false, not_or]; omega)).trans hO148
                replace hA152 := (hu209 _ (by have z0 := yd5; simp only [List.mem_cons, List.not_mem_nil, or_false, not_or]; omega)).trans hA152
                replace hF := q_uc hF hu209 (by simp)
                have hR221 := (show F_NH_decimal_ab_c139 x2 x3 x4 x5 t0_0 t0_1 t1_0 t1_1 t2_0 t3_0 t3_1 t4_0 t5_0 t5_1 t6_0 t7_0 t7_1 t8_0 t9_0 t9_1 t10_0 t11_0 t11_1 t12_0 t12_1 t13_0 t14_0 t14_1 t15_0 t15_1 t16_0 lx71 p171 y136 y137 y139 y140 f141 y144 y145 f146 y149 y150 f151 p210 = (F_NH_decimal_ab x2 x3 x4 x5 t0_0 t0_1 t1_0 t1_1 t2_0 t3_0 t3_1 t4_0 t5_0 t5_1 t6_0 t7_0 t7_1 t8_0 t9_0 t9_1 t10_0 t11_0 t11_1 t12_0 t12_1 t13_0 t14_0 t14_1 t15_0 t15_1 t16_0) from Eq.trans (by rw [e211, e183, e182, e181, e180, e179, e178, e177, e176, e175, e174, e173, F_NH_decimal_ab_c133.eq_1]) hR184)
                have hS222 := (show True ∧ S_NH_decimal_ab_c139 x2 x3 x4 x5 t0_0 t0_1 t1_0 t1_1 t2_0 t3_0 t3_1 t4_0 t5_0 t5_1 t6_0 t7_0 t7_1 t8_0 t9_0 t9_1 t10_0 t11_0 t11_1 t12_0 t12_1 t13_0 t14_0 t14_1 t15_0 t15_1 t16_0 lx71 p171 y136 y137 y139 y140 f141 y144 y145 f146 y149 y150 f151 p210 from (by rw [e211, e183, e182, e181, e180, e179, e178, e177, e176, e175, e174, e173]; have h := hS185; rw [S_NH_decimal_ab_c133.eq_1] at h; replace h := q_s2 h; with_reducible exact h))
                exact q_outT hno C0 V (⟨p210.1, (he207.trans (congrArg qE ((congrArg (fun z => z.1) (hE205.trans e211.symm)) : cx206 = _))), c212, hI, hF, y136, y137, y139, y140, f141, y144, y145, f146, y149, y150, f151, y193, y194, f195, y198, y199, y201, y202, f203, hO135, hO138, hA142, hO143, hA147, hO148, hA152, hO192, hA196, hO197, hO200, hA204, (show (p210.1, y136, y137, y139, y140, f141, y144, y145, f146, y149, y150, f151, y193, y194, f195, y198, y199, y201, y202, f203) = (F_NH_decimal_ab x2 x3 x4 x5 t0_0 t0_1 t1_0 t1_1 t2_0 t3_0 t3_1 t4_0 t5_0 t5_1 t6_0 t7_0 t7_1 t8_0 t9_0 t9_1 t10_0 t11_0 t11_1 t12_0 t12_1 t13_0 t14_0 t14_1 t15_0 t15_1 t16_0) from Eq.trans (by rw [e220, e219, e218, e217, e216, e215, e214, e213, F_NH_decimal_ab_c139.eq_1, if_neg c212]) hR221)⟩) hce hcv hcl (Nat.le_of_ble_eq_true rfl) (Nat.le_of_ble_eq_true rfl)
              ·
                obtain ⟨hI, hZ9⟩ := hp191
                obtain ⟨hu264, hZ9⟩ := hZ9
                obtain ⟨y227, hZ9⟩ := hZ9
                obtain ⟨y228, hZ9⟩ := hZ9
                obtain ⟨f229, hZ9⟩ := hZ9
                obtain ⟨y232, hZ9⟩ := hZ9
                obtain ⟨y233, hZ9⟩ := hZ9
                obtain ⟨y235, hZ9⟩ := hZ9
                obtain ⟨y236, hZ9⟩ := hZ9
                obtain ⟨f237, hZ9⟩ := hZ9
                obtain ⟨hO226, hZ9⟩ := hZ9
                obtain ⟨hA230, hZ9⟩ := hZ9
                obtain ⟨hO231, hZ9⟩ := hZ9
                obtain ⟨hO234, hZ9⟩ := hZ9
                obtain ⟨hA238, hZ9⟩ := hZ9
                obtain ⟨b239, hZ9⟩ := hZ9
                obtain ⟨b240, hZ9⟩ := hZ9
                obtain ⟨b241, hZ9⟩ := hZ9
                obtain ⟨b242, hZ9⟩ := hZ9
                obtain ⟨b243, hZ9⟩ := hZ9
                obtain ⟨b244, hZ9⟩ := hZ9
                obtain ⟨b245, hZ9⟩ := hZ9
                obtain ⟨b246, hZ9⟩ := hZ9
                obtain ⟨b247, hZ9⟩ := hZ9
                obtain ⟨b248, hZ9⟩ := hZ9
                obtain ⟨b249, hZ9⟩ := hZ9
                obtain ⟨b250, hZ9⟩ := hZ9
                obtain ⟨b251, hZ9⟩ := hZ9
                obtain ⟨b252, hZ9⟩ := hZ9
                obtain ⟨b253, hZ9⟩ := hZ9
                obtain ⟨b254, hZ9⟩ := hZ9
                obtain ⟨b255, hZ9⟩ := hZ9
                obtain ⟨b256, hZ9⟩ := hZ9
                obtain ⟨b257, hZ9⟩ := hZ9
                obtain ⟨b258, hZ9⟩ := hZ9
                obtain ⟨b259, hZ9⟩ := hZ9
                obtain ⟨b260, hZ9⟩ := hZ9
                obtain ⟨b261, hZ9⟩ := hZ9
                obtain ⟨b262, hE263⟩ := hZ9
                replace hO226 : u190[20]? = (some (q 20, .inr (2, [.ref (q 21), .int y227, .int y228])) : Option (Nat × va_E)) := hO226
                replace hA230 : u190[21]? = (some (q 21, .inl (g 0, (220 : Int32).toNatClampNeg, .inl f229)) : Option (Nat × va_E)) := hA230
                replace hO231 : u190[d5]? = (some (q d5, .inr (3, [.ref (q (d5 + 1)), .int y232, .int y233])) : Option (Nat × va_E)) := hO231
                replace hO234 : u190[d5 + 1]? = (some (q (d5 + 1), .inr (2, [.ref (q (d5 + 2)), .int y235, .int y236])) : Option (Nat × va_E)) := hO234
                replace hA238 : u190[d5 + 2]? = (some (q (d5 + 2), .inl (g 0, (108 : Int32).toNatClampNeg, .inl f237)) : Option (Nat × va_E)) := hA238
                obtain ⟨p210, e211⟩ : ∃ z, z = (F_NH_keepDecimal x5 y136 y137 y139 y140 f141 t9_0 t9_1 t10_0 t14_0 t14_1 t15_0 t15_1 t16_0) := ⟨_, rfl⟩
                have c212 : p210.1 = (0 : Int32) := ((congrArg (fun z => z.1) (hE263.trans e211.symm)) : (0 : Int32) = _).symm
                have e266 : y227 = p210.2.1 := congrArg (fun z => z.2.1) (hE263.trans e211.symm)
                have e267 : y228 = p210.2.2.1 := congrArg (fun z => z.2.2.1) (hE263.trans e211.symm)
                have e268 : f229 = p210.2.2.2.1 := congrArg (fun z => z.2.2.2.1) (hE263.trans e211.symm)
                have e269 : y232 = p210.2.2.2.2.1 := congrArg (fun z => z.2.2.2.2.1) (hE263.trans e211.symm)
                have e270 : y233 = p210.2.2.2.2.2.1 := congrArg (fun z => z.2.2.2.2.2.1) (hE263.trans e211.symm)
                have e271 : y235 = p210.2.2.2.2.2.2.1 := congrArg (fun z => z.2.2.2.2.2.2.1) (hE263.trans e211.symm)
                have e272 : y236 = p210.2.2.2.2.2.2.2.1 := congrArg (fun z => z.2.2.2.2.2.2.2.1) (hE263.trans e211.symm)
                have e273 : f237 = p210.2.2.2.2.2.2.2.2 := congrArg (fun z => z.2.2.2.2.2.2.2.2) (hE263.trans e211.symm)
                replace b239 : q_F (0 ≤ y227.toInt) := b239
                replace b240 : q_F (y227.toInt ≤ 220) := b240
                replace b241 : q_F (0 ≤ y228.toInt) := b241
                replace b242 : q_F (y228.toInt ≤ 1) := b242
                replace b243 : q_F (0 ≤ y232.toInt + 10000) := b243
                replace b244 : q_F (y232.toInt ≤ 10000) := b244
                replace b245 : q_F (1 ≤ y233.toInt) := b245
                replace b246 : q_F (y233.toInt ≤ 1000) := b246
                replace b247 : q_F (0 ≤ y235.toInt) := b247
                replace b248 : q_F (y235.toInt ≤ 108) := b248
                replace b249 : q_F (0 ≤ y236.toInt) := b249
                replace b250 : q_F (y236.toInt ≤ 1) := b250
                replace b251 : q_F (x5.toInt ≤ y227.toInt + 9) := b251
                replace b252 : q_F (y227.toInt ≤ x5.toInt + 220) := b252
                replace b253 : q_F (x5.toInt ≤ y228.toInt + 9) := b253
                replace b254 : q_F (y228.toInt ≤ x5.toInt + 1) := b254
                replace b255 : q_F (x5.toInt ≤ y232.toInt + 10009) := b255
                replace b256 : q_F (y232.toInt ≤ x5.toInt + 10000) := b256
                replace b257 : q_F (x5.toInt ≤ y233.toInt + 8) := b257
                replace b258 : q_F (y233.toInt ≤ x5.toInt + 1000) := b258
                replace b259 : q_F (x5.toInt ≤ y235.toInt + 9) := b259
                replace b260 : q_F (y235.toInt ≤ x5.toInt + 108) := b260
                replace b261 : q_F (x5.toInt ≤ y236.toInt + 9) := b261
                replace b262 : q_F (y236.toInt ≤ x5.toInt + 1) := b262
                replace hO135 := (hu264 _ (by have z0 := yd5; simp only [List.mem_cons, List.not_mem_nil, or_false, not_or]; omega)).trans hO135
                replace hO138 := (hu264 _ (by have z0 := yd5; simp only [List.mem_cons, List.not_mem_nil, or_false, not_or]; omega)).trans hO138
                replace hA142 := (hu264 _ (by have z0 := yd5; simp only [List.mem_cons, List.not_mem_nil, or_false, not_or]; omega)).trans hA142
                replace hO143 := (hu264 _ (by have z0 := yd5; simp only [List.mem_cons, List.not_mem_nil, or_false, not_or]; omega)).trans hO143
                replace hA147 := (hu264 _ (by have z0 := yd5; simp only [List.mem_cons, List.not_mem_nil, or_false, not_or]; omega)).trans hA147
                replace hO148 := (hu264 _ (by have z0 := yd5; simp only [List.mem_cons, List.not_mem_nil, or_false, not_or]; omega)).trans hO148
                replace hA152 := (hu264 _ (by have z0 := yd5; simp only [List.mem_cons, List.not_mem_nil, or_false, not_or]; omega)).trans hA152
                replace hF := q_uc hF hu264 (by simp)
                have hR221 := (show F_NH_decimal_ab_c139 x2 x3 x4 x5 t0_0 t0_1 t1_0 t1_1 t2_0 t3_0 t3_1 t4_0 t5_0 t5_1 t6_0 t7_0 t7_1 t8_0 t9_0 t9_1 t10_0 t11_0 t11_1 t12_0 t12_1 t13_0 t14_0 t14_1 t15_0 t15_1 t16_0 lx71 p171 y136 y137 y139 y140 f141 y144 y145 f146 y149 y150 f151 p210 = (F_NH_decimal_ab x2 x3 x4 x5 t0_0 t0_1 t1_0 t1_1 t2_0 t3_0 t3_1 t4_0 t5_0 t5_1 t6_0 t7_0 t7_1 t8_0 t9_0 t9_1 t10_0 t11_0 t11_1 t12_0 t12_1 t13_0 t14_0 t14_1 t15_0 t15_1 t16_0) from Eq.trans (by rw [e211, e183, e182, e181, e180, e179, e178, e177, e176, e175, e174, e173, F_NH_decimal_ab_c133.eq_1]) hR184)
                have hS222 := (show True ∧ S_NH_decimal_ab_c139 x2 x3 x4 x5 t0_0 t0_1 t1_0 t1_1 t2_0 t3_0 t3_1 t4_0 t5_0 t5_1 t6_0 t7_0 t7_1 t8_0 t9_0 t9_1 t10_0 t11_0 t11_1 t12_0 t12_1 t13_0 t14_0 t14_1 t15_0 t15_1 t16_0 lx71 p171 y136 y137 y139 y140 f141 y144 y145 f146 y149 y150 f151 p210 from (by rw [e211, e183, e182, e181, e180, e179, e178, e177, e176, e175, e174, e173]; have h := hS185; rw [S_NH_decimal_ab_c133.eq_1] at h; replace h := q_s2 h; with_reducible exact h))
                exact q_retX (q_retv C0 V (⟨hI, hF, y136, y137, y139, y140, f141, y144, y145, f146, y149, y150, f151, y227, y228, f229, y232, y233, y235, y236, f237, hO135, hO138, hA142, hO143, hA147, hO148, hA152, hO226, hA230, hO231, hO234, hA238, (show 0 ≤ y136.toInt + 20000 from (by have t1 : -10000 ≤ t11_0.toInt ∧ t11_0.toInt ≤ 10000 := btt11_0; have t2 : t11_0.toInt ≤ y136.toInt := b162; omega)), (show y136.toInt ≤ 20000 from (by have t1 : -10000 ≤ t11_0.toInt ∧ t11_0.toInt ≤ 10000 := btt11_0; have t2 : y136.toInt ≤ t11_0.toInt := b163; omega)), (show 0 ≤ y137.toInt from (by have t1 : 0 ≤ t0_1.toInt ∧ t0_1.toInt ≤ 1 := btt0_1; have t2 : t0_1.toInt ≤ y137.toInt := b164; omega)), (show y137.toInt ≤ 1 from (by have t1 : 0 ≤ t0_1.toInt ∧ t0_1.toInt ≤ 1 := btt0_1; have t2 : y137.toInt ≤ t0_1.toInt := b165; omega)), (show 0 ≤ y139.toInt from (by first | with_reducible exact q_fe b153 | (have t1 : 0 ≤ y139.toInt := b153; omega))), (show y139.toInt ≤ 220 from (by first | with_reducible exact q_fe b154 | (have t1 : y139.toInt ≤ 220 := b154; omega))), (show 0 ≤ y140.toInt from (by first | with_reducible exact q_fe b155 | (have t1 : 0 ≤ y140.toInt := b155; omega))), (show y140.toInt ≤ 1 from (by have t1 : 0 ≤ t12_1.toInt ∧ t12_1.toInt ≤ 1 := btt12_1; have t2 : y140.toInt ≤ t12_1.toInt := b166; omega)), (show 0 ≤ y144.toInt from (by first | with_reducible exact q_fe b156 | (have t1 : 0 ≤ y144.toInt := b156; omega))), (show y144.toInt ≤ 220 from (by first | with_reducible exact q_fe b157 | (have t1 : y144.toInt ≤ 220 := b157; omega))), (show 0 ≤ y145.toInt from (by first | with_reducible exact q_fe b158 | (have t1 : 0 ≤ y145.toInt := b158; omega))), (show y145.toInt ≤ 1 from (by have t1 : 0 ≤ t3_1.toInt ∧ t3_1.toInt ≤ 1 := btt3_1; have t2 : y145.toInt ≤ t3_1.toInt := b167; omega)), (show 0 ≤ y149.toInt from (by first | with_reducible exact q_fe b159 | (have t1 : 0 ≤ y149.toInt := b159; omega))), (show y149.toInt ≤ 220 from (by first | with_reducible exact q_fe b160 | (have t1 : y149.toInt ≤ 220 := b160; omega))), (show 0 ≤ y150.toInt from (by first | with_reducible exact q_fe b161 | (have t1 : 0 ≤ y150.toInt := b161; omega))), (show y150.toInt ≤ 2 from (by have t1 : 0 ≤ t12_1.toInt ∧ t12_1.toInt ≤ 1 := btt12_1; have t2 : y140.toInt ≤ t12_1.toInt := b166; have t3 : y150.toInt ≤ y140.toInt + 1 := b168; omega)), (show 0 ≤ y227.toInt from (by first | with_reducible exact q_fe b239 | (have t1 : 0 ≤ y227.toInt := b239; omega))), (show y227.toInt ≤ 220 from (by first | with_reducible exact q_fe b240 | (have t1 : y227.toInt ≤ 220 := b240; omega))), (show 0 ≤ y228.toInt from (by first | with_reducible exact q_fe b241 | (have t1 : 0 ≤ y228.toInt := b241; omega))), (show y228.toInt ≤ 1 from (by first | with_reducible exact q_fe b242 | (have t1 : y228.toInt ≤ 1 := b242; omega))), (show 0 ≤ y232.toInt + 10000 from (by first | with_reducible exact q_fe b243 | (have t1 : 0 ≤ y232.toInt + 10000 := b243; omega))), (show y232.toInt ≤ 10000 from (by first | with_reducible exact q_fe b244 | (have t1 : y232.toInt ≤ 10000 := b244; omega))), (show 1 ≤ y233.toInt from (by first | with_reducible exact q_fe b245 | (have t1 : 1 ≤ y233.toInt := b245; omega))), (show y233.toInt ≤ 1000 from (by first | with_reducible exact q_fe b246 | (have t1 : y233.toInt ≤ 1000 := b246; omega))), (show 0 ≤ y235.toInt from (by first | with_reducible exact q_fe b247 | (have t1 : 0 ≤ y235.toInt := b247; omega))), (show y235.toInt ≤ 108 from (by first | with_reducible exact q_fe b248 | (have t1 : y235.toInt ≤ 108 := b248; omega))), (show 0 ≤ y236.toInt from (by first | with_reducible exact q_fe b249 | (have t1 : 0 ≤ y236.toInt := b249; omega))), (show y236.toInt ≤ 1 from (by first | with_reducible exact q_fe b250 | (have t1 : y236.toInt ≤ 1 := b250; omega))), (show x3.toInt ≤ y136.toInt + 20009 from (by have t1 : -10000 ≤ t11_0.toInt ∧ t11_0.toInt ≤ 10000 := btt11_0; have t2 : x3.toInt ≤ 9 := ob109; have t3 : t11_0.toInt ≤ y136.toInt := b162; omega)), (show y136.toInt ≤ x3.toInt + 20000 from (by have t1 : -10000 ≤ t11_0.toInt ∧ t11_0.toInt ≤ 10000 := btt11_0; have t2 : 0 ≤ x3.toInt := ob108; have t3 : y136.toInt ≤ t11_0.toInt := b163; omega)), (show x4.toInt ≤ y136.toInt + 20009 from (by have t1 : -10000 ≤ t11_0.toInt ∧ t11_0.toInt ≤ 10000 := btt11_0; have t2 : x4.toInt ≤ 9 := ob114; have t3 : t11_0.toInt ≤ y136.toInt := b162; omega)), (show y136.toInt ≤ x4.toInt + 20000 from (by have t1 : -10000 ≤ t11_0.toInt ∧ t11_0.toInt ≤ 10000 := btt11_0; have t2 : 0 ≤ x4.toInt := ob113; have t3 : y136.toInt ≤ t11_0.toInt := b163; omega)), (show t11_0.toInt ≤ y136.toInt + 10000 from (by first | with_reducible exact q_fe b162 | (have t1 : t11_0.toInt ≤ y136.toInt := b162; omega))), (show y136.toInt ≤ t11_0.toInt + 20000 from (by first | with_reducible exact q_fe b163 | (have t1 : y136.toInt ≤ t11_0.toInt := b163; omega))), (show x3.toInt ≤ y137.toInt + 9 from (by have t1 : 0 ≤ t0_1.toInt ∧ t0_1.toInt ≤ 1 := btt0_1; have t2 : x3.toInt ≤ 9 := ob109; have t3 : t0_1.toInt ≤ y137.toInt := b164; omega)), (show y137.toInt ≤ x3.toInt + 1 from (by have t1 : 0 ≤ t0_1.toInt ∧ t0_1.toInt ≤ 1 := btt0_1; have t2 : 0 ≤ x3.toInt := ob108; have t3 : y137.toInt ≤ t0_1.toInt := b165; omega)), (show x4.toInt ≤ y137.toInt + 9 from (by have t1 : 0 ≤ t0_1.toInt ∧ t0_1.toInt ≤ 1 := btt0_1; have t2 : x4.toInt ≤ 9 := ob114; have t3 : t0_1.toInt ≤ y137.toInt := b164; omega)), (show y137.toInt ≤ x4.toInt + 1 from (by have t1 : 0 ≤ t0_1.toInt ∧ t0_1.toInt ≤ 1 := btt0_1; have t2 : 0 ≤ x4.toInt := ob113; have t3 : y137.toInt ≤ t0_1.toInt := b165; omega)), (show t0_1.toInt ≤ y137.toInt from (by first | with_reducible exact q_fe b164 | (have t1 : t0_1.toInt ≤ y137.toInt := b164; omega))), (show y137.toInt ≤ t0_1.toInt from (by first | with_reducible exact q_fe b165 | (have t1 : y137.toInt ≤ t0_1.toInt := b165; omega))), (show x3.toInt ≤ y139.toInt + 9 from (by have t1 : x3.toInt ≤ 9 := ob109; have t2 : 0 ≤ y139.toInt := b153; omega)), (show y139.toInt ≤ x3.toInt + 220 from (by have t1 : 0 ≤ x3.toInt := ob108; have t2 : y139.toInt ≤ 220 := b154; omega)), (show x4.toInt ≤ y139.toInt + 9 from (by have t1 : x4.toInt ≤ 9 := ob114; have t2 : 0 ≤ y139.toInt := b153; omega)), (show y139.toInt ≤ x4.toInt + 220 from (by have t1 : 0 ≤ x4.toInt := ob113; have t2 : y139.toInt ≤ 220 := b154; omega)), (show x3.toInt ≤ y140.toInt + 9 from (by have t1 : x3.toInt ≤ 9 := ob109; have t2 : 0 ≤ y140.toInt := b155; omega)), (show y140.toInt ≤ x3.toInt + 1 from (by have t1 : 0 ≤ t12_1.toInt ∧ t12_1.toInt ≤ 1 := btt12_1; have t2 : 0 ≤ x3.toInt := ob108; have t3 : y140.toInt ≤ t12_1.toInt := b166; omega)), (show x4.toInt ≤ y140.toInt + 9 from (by have t1 : x4.toInt ≤ 9 := ob114; have t2 : 0 ≤ y140.toInt := b155; omega)), (show y140.toInt ≤ x4.toInt + 1 from (by have t1 : 0 ≤ t12_1.toInt ∧ t12_1.toInt ≤ 1 := btt12_1; have t2 : 0 ≤ x4.toInt := ob113; have t3 : y140.toInt ≤ t12_1.toInt := b166; omega)), (show x3.toInt ≤ y144.toInt + 9 from (by have t1 : x3.toInt ≤ 9 := ob109; have t2 : 0 ≤ y144.toInt := b156; omega)), (show y144.toInt ≤ x3.toInt + 220 from (by have t1 : 0 ≤ x3.toInt := ob108; have t2 : y144.toInt ≤ 220 := b157; omega)), (show x4.toInt ≤ y144.toInt + 9 from (by have t1 : x4.toInt ≤ 9 := ob114; have t2 : 0 ≤ y144.toInt := b156; omega)), (show y144.toInt ≤ x4.toInt + 220 from (by have t1 : 0 ≤ x4.toInt := ob113; have t2 : y144.toInt ≤ 220 := b157; omega)), (show x3.toInt ≤ y145.toInt + 9 from (by have t1 : x3.toInt ≤ 9 := ob109; have t2 : 0 ≤ y145.toInt := b158; omega)), (show y145.toInt ≤ x3.toInt + 1 from (by have t1 : 0 ≤ t3_1.toInt ∧ t3_1.toInt ≤ 1 := btt3_1; have t2 : 0 ≤ x3.toInt := ob108; have t3 : y145.toInt ≤ t3_1.toInt := b167; omega)), (show x4.toInt ≤ y145.toInt + 9 from (by have t1 : x4.toInt ≤ 9 := ob114; have t2 : 0 ≤ y145.toInt := b158; omega)), (show y145.toInt ≤ x4.toInt + 1 from (by have t1 : 0 ≤ t3_1.toInt ∧ t3_1.toInt ≤ 1 := btt3_1; have t2 : 0 ≤ x4.toInt := ob113; have t3 : y145.toInt ≤ t3_1.toInt := b167; omega)), (show y145.toInt ≤ t3_1.toInt from (by first | with_reducible exact q_fe b167 | (have t1 : y145.toInt ≤ t3_1.toInt := b167; omega))), (show x3.toInt ≤ y149.toInt + 9 from (by have t1 : x3.toInt ≤ 9 := ob109; have t2 : 0 ≤ y149.toInt := b159; omega)), (show y149.toInt ≤ x3.toInt + 220 from (by have t1 : 0 ≤ x3.toInt := ob108; have t2 : y149.toInt ≤ 220 := b160; omega)), (show x4.toInt ≤ y149.toInt + 9 from (by have t1 : x4.toInt ≤ 9 := ob114; have t2 : 0 ≤ y149.toInt := b159; omega)), (show y149.toInt ≤ x4.toInt + 220 from (by have t1 : 0 ≤ x4.toInt := ob113; have t2 : y149.toInt ≤ 220 := b160; omega)), (show x3.toInt ≤ y150.toInt + 9 from (by have t1 : x3.toInt ≤ 9 := ob109; have t2 : 0 ≤ y150.toInt := b161; omega)), (show x4.toInt ≤ y150.toInt + 9 from (by have t1 : x4.toInt ≤ 9 := ob114; have t2 : 0 ≤ y150.toInt := b161; omega)), (show y150.toInt ≤ t12_1.toInt + 1 from (by have t1 : y140.toInt ≤ t12_1.toInt := b166; have t2 : y150.toInt ≤ y140.toInt + 1 := b168; omega)), (show x3.toInt ≤ y227.toInt + 9 from (by have t1 : x3.toInt ≤ 9 := ob109; have t2 : 0 ≤ y227.toInt := b239; omega)), (show y227.toInt ≤ x3.toInt + 220 from (by have t1 : 0 ≤ x3.toInt := ob108; have t2 : y227.toInt ≤ 220 := b240; omega)), (show x4.toInt ≤ y227.toInt + 9 from (by have t1 : x4.toInt ≤ 9 := ob114; have t2 : 0 ≤ y227.toInt := b239; omega)), (show y227.toInt ≤ x4.toInt + 220 from (by have t1 : 0 ≤ x4.toInt := ob113; have t2 : y227.toInt ≤ 220 := b240; omega)), (show x5.toInt ≤ y227.toInt + 9 from (by first | with_reducible exact q_fe b251 | (have t1 : x5.toInt ≤ y227.toInt + 9 := b251; omega))), (show y227.toInt ≤ x5.toInt + 220 from (by first | with_reducible exact q_fe b252 | (have t1 : y227.toInt ≤ x5.toInt + 220 := b252; omega))), (show x3.toInt ≤ y228.toInt + 9 from (by have t1 : x3.toInt ≤ 9 := ob109; have t2 : 0 ≤ y228.toInt := b241; omega)), (show y228.toInt ≤ x3.toInt + 1 from (by have t1 : 0 ≤ x3.toInt := ob108; have t2 : y228.toInt ≤ 1 := b242; omega)), (show x4.toInt ≤ y228.toInt + 9 from (by have t1 : x4.toInt ≤ 9 := ob114; have t2 : 0 ≤ y228.toInt := b241; omega)), (show y228.toInt ≤ x4.toInt + 1 from (by have t1 : 0 ≤ x4.toInt := ob113; have t2 : y228.toInt ≤ 1 := b242; omega)), (show x5.toInt ≤ y228.toInt + 9 from (by first | with_reducible exact q_fe b253 | (have t1 : x5.toInt ≤ y228.toInt + 9 := b253; omega))), (show y228.toInt ≤ x5.toInt + 1 from (by first | with_reducible exact q_fe b254 | (have t1 : y228.toInt ≤ x5.toInt + 1 := b254; omega))), (show x3.toInt ≤ y232.toInt + 10009 from (by have t1 : x3.toInt ≤ 9 := ob109; have t2 : 0 ≤ y232.toInt + 10000 := b243; omega)), (show y232.toInt ≤ x3.toInt + 10000 from (by have t1 : 0 ≤ x3.toInt := ob108; have t2 : y232.toInt ≤ 10000 := b244; omega)), (show x4.toInt ≤ y232.toInt + 10009 from (by have t1 : x4.toInt ≤ 9 := ob114; have t2 : 0 ≤ y232.toInt + 10000 := b243; omega)), (show y232.toInt ≤ x4.toInt + 10000 from (by have t1 : 0 ≤ x4.toInt := ob113; have t2 : y232.toInt ≤ 10000 := b244; omega)), (show x5.toInt ≤ y232.toInt + 10009 from (by first | with_reducible exact q_fe b255 | (have t1 : x5.toInt ≤ y232.toInt + 10009 := b255; omega))), (show y232.toInt ≤ x5.toInt + 10000 from (by first | with_reducible exact q_fe b256 | (have t1 : y232.toInt ≤ x5.toInt + 10000 := b256; omega))), (show x3.toInt ≤ y233.toInt + 8 from (by have t1 : x3.toInt ≤ 9 := ob109; have t2 : 1 ≤ y233.toInt := b245; omega)), (show y233.toInt ≤ x3.toInt + 1000 from (by have t1 : 0 ≤ x3.toInt := ob108; have t2 : y233.toInt ≤ 1000 := b246; omega)), (show x4.toInt ≤ y233.toInt + 8 from (by have t1 : x4.toInt ≤ 9 := ob114; have t2 : 1 ≤ y233.toInt := b245; omega)), (show y233.toInt ≤ x4.toInt + 1000 from (by have t1 : 0 ≤ x4.toInt := ob113; have t2 : y233.toInt ≤ 1000 := b246; omega)), (show x5.toInt ≤ y233.toInt + 8 from (by first | with_reducible exact q_fe b257 | (have t1 : x5.toInt ≤ y233.toInt + 8 := b257; omega))), (show y233.toInt ≤ x5.toInt + 1000 from (by first | with_reducible exact q_fe b258 | (have t1 : y233.toInt ≤ x5.toInt + 1000 := b258; omega))), (show x3.toInt ≤ y235.toInt + 9 from (by have t1 : x3.toInt ≤ 9 := ob109; have t2 : 0 ≤ y235.toInt := b247; omega)), (show y235.toInt ≤ x3.toInt + 108 from (by have t1 : 0 ≤ x3.toInt := ob108; have t2 : y235.toInt ≤ 108 := b248; omega)), (show x4.toInt ≤ y235.toInt + 9 from (by have t1 : x4.toInt ≤ 9 := ob114; have t2 : 0 ≤ y235.toInt := b247; omega)), (show y235.toInt ≤ x4.toInt + 108 from (by have t1 : 0 ≤ x4.toInt := ob113; have t2 : y235.toInt ≤ 108 := b248; omega)), (show x5.toInt ≤ y235.toInt + 9 from (by first | with_reducible exact q_fe b259 | (have t1 : x5.toInt ≤ y235.toInt + 9 := b259; omega))), (show y235.toInt ≤ x5.toInt + 108 from (by first | with_reducible exact q_fe b260 | (have t1 : y235.toInt ≤ x5.toInt + 108 := b260; omega))), (show x3.toInt ≤ y236.toInt + 9 from (by have t1 : x3.toInt ≤ 9 := ob109; have t2 : 0 ≤ y236.toInt := b249; omega)), (show y236.toInt ≤ x3.toInt + 1 from (by have t1 : 0 ≤ x3.toInt := ob108; have t2 : y236.toInt ≤ 1 := b250; omega)), (show x4.toInt ≤ y236.toInt + 9 from (by have t1 : x4.toInt ≤ 9 := ob114; have t2 : 0 ≤ y236.toInt := b249; omega)), (show y236.toInt ≤ x4.toInt + 1 from (by have t1 : 0 ≤ x4.toInt := ob113; have t2 : y236.toInt ≤ 1 := b250; omega)), (show x5.toInt ≤ y236.toInt + 9 from (by first | with_reducible exact q_fe b261 | (have t1 : x5.toInt ≤ y236.toInt + 9 := b261; omega))), (show y236.toInt ≤ x5.toInt + 1 from (by first | with_reducible exact q_fe b262 | (have t1 : y236.toInt ≤ x5.toInt + 1 := b262; omega))), (show y150.toInt ≤ y136.toInt + 20001 from (by have t1 : -10000 ≤ t11_0.toInt ∧ t11_0.toInt ≤ 10000 := btt11_0; have t2 : 0 ≤ t12_1.toInt ∧ t12_1.toInt ≤ 1 := btt12_1; have t3 : t11_0.toInt ≤ y136.toInt := b162; have t4 : y140.toInt ≤ t12_1.toInt := b166; have t5 : y150.toInt ≤ y140.toInt + 1 := b168; omega)), (show y150.toInt ≤ y140.toInt + 1 from (by first | with_reducible exact q_fe b168 | (have t1 : y150.toInt ≤ y140.toInt + 1 := b168; omega))), (show ((0 : Int32), y136, y137, y139, y140, f141, y144, y145, f146, y149, y150, f151, y227, y228, f229, y232, y233, y235, y236, f237) = (F_NH_decimal_ab x2 x3 x4 x5 t0_0 t0_1 t1_0 t1_1 t2_0 t3_0 t3_1 t4_0 t5_0 t5_1 t6_0 t7_0 t7_1 t8_0 t9_0 t9_1 t10_0 t11_0 t11_1 t12_0 t12_1 t13_0 t14_0 t14_1 t15_0 t15_1 t16_0) from Eq.trans (by rw [e273, e272, e271, e270, e269, e268, e267, e266, F_NH_decimal_ab_c139.eq_1, if_pos c212]) hR221)⟩) d_1_11_142)
          ·
            refine lv_iconst (v := 1) hx hb d_1_11_117 (by decide) ?_
            refine lv_goto (tgt := 122) hx hb d_1_11_118 (by decide) ?_
            refine q_goxv V (q_runSX (As := [.int 1]) (rest := []) (d := 7) (mc := 1) (ms := 6) C0 V rfl LS_NH_138 (X_NH_canHave l D g q ws  1 hlt hI  ⟨(by have y0 : (1 : Int32).toInt = 1 := rfl; omega), (by have y0 : (1 : Int32).toInt = 1 := rfl; omega)⟩ _) rfl hl.1 rfl (Nat.le_of_ble_eq_true rfl) ⟨by decide, by decide⟩ ⟨Nat.le_of_ble_eq_true rfl, Nat.le_of_ble_eq_true rfl⟩ d_1_11_122) (fun qx Ex ce u275 H locs hp276 V hce hcv hcl => ?_) (fun u275 H locs hp276 V => ?_)
            ·
              obtain ⟨cx278, he279, hc280, rfl, hE277⟩ := hp276
              have c281 : ¬ (F_NH_canHave (1 : Int32)) = (0 : Int32) := fun z => hc280 (((hE277) : cx278 = _).trans z)
              exact q_outT hno C0 V (⟨(F_NH_canHave (1 : Int32)), (he279.trans (congrArg qE ((hE277) : cx278 = _))), c281, hI, hF, t0_0, t0_1, t1_0, t1_1, t2_0, t3_0, t3_1, t4_0, t5_0, t5_1, t6_0, t9_0, t9_1, t10_0, t14_0, t14_1, t15_0, t15_1, t16_0, hT0, hT1, hT2, hT3, hT4, hT5, hT6, hT9, hT10, hT14, hT15, hT16, (show ((F_NH_canHave (1 : Int32)), t0_0, t0_1, t1_0, t1_1, t2_0, t3_0, t3_1, t4_0, t5_0, t5_1, t6_0, t9_0, t9_1, t10_0, t14_0, t14_1, t15_0, t15_1, t16_0) = (F_NH_decimal_ab x2 x3 x4 x5 t0_0 t0_1 t1_0 t1_1 t2_0 t3_0 t3_1 t4_0 t5_0 t5_1 t6_0 t7_0 t7_1 t8_0 t9_0 t9_1 t10_0 t11_0 t11_1 t12_0 t12_1 t13_0 t14_0 t14_1 t15_0 t15_1 t16_0) from Eq.trans (by rw [F_NH_decimal_ab_J36.eq_1, if_pos c103, if_pos c117, if_neg c119, if_neg c121, if_neg c281]) hR92)⟩) hce hcv hcl (Nat.le_of_ble_eq_true rfl) (Nat.le_of_ble_eq_true rfl)
            ·
              obtain ⟨rfl, hE282⟩ := hp276
              have c281 : (F_NH_canHave (1 : Int32)) = (0 : Int32) := ((hE282) : (0 : Int32) = _).symm
              refine lv_aload_n hx hb d_1_11_125 rfl (lv_at hl 2 rfl) ?_
              refine q_get (ci := 0) (j := 7) (v := .ref (q 30)) C0 V i_NH rfl rfl hO106 (by decide) w_431 rfl d_1_11_126 ?_
              refine lv_aload hx hb d_1_11_129 (lv_at hl 1 rfl) ?_
              refine lv_aload hx hb d_1_11_131 (lv_at hl 0 rfl) ?_
              have ob284 : True ∧ S_DW_rest_a (108 : Int32) t0_0 t0_1 t1_0 t1_1 t2_0 t3_0 t3_1 t4_0 t5_0 t5_1 t6_0 t7_0 t7_1 t8_0 t11_0 t11_1 t12_0 t12_1 t13_0 := (by have h := hS93; rw [S_NH_decimal_ab_J36.eq_1] at h; rw [if_pos c103] at h; replace h := q_s2 h; replace h := q_s2 h; replace h := q_s2 h; replace h := q_s2 h; rw [if_pos c117] at h; rw [if_neg c119] at h; rw [if_neg c121] at h; rw [if_pos c281] at h; with_reducible exact h.2.1)
              refine q_gov V (q_runV (As := [.ref (q d3), .ref (q d3)]) (rest := []) (d := 5) (mc := 0) (ms := 0) (ci := 5) C0 V rfl LV_NH_278 (X_DW_rest_a l D g q ws d3 108 hBd3 (Or.inr yd3)  (by have z0 := yd3; omega) (by have z0 := yd3; omega) (by have z0 := yd3; omega) (by have z0 := yd3; omega) (by have z0 := yd3; omega) (by have z0 := yd3; omega) (by have z0 := yd3; omega) (by have z0 := yd3; omega) (by have z0 := yd3; omega) (by have z0 := yd3; omega) (by have z0 := yd3; omega) (by have z0 := yd3; omega) (by have z0 := yd3; omega) (by have z0 := yd3; omega) (by have z0 := yd3; omega) (by have z0 := yd3; omega) hI t0_0 t0_1 hT0 t1_0 t1_1 hT1 t2_0 hT2 t3_0 t3_1 hT3 t4_0 hT4 t5_0 t5_1 hT5 t6_0 hT6 t7_0 t7_1 hT7 t8_0 hT8 t11_0 t11_1 hT11 t12_0 t12_1 hT12 t13_0 hT13 ob284 _) rfl rfl hT0 rfl hl.1 rfl (Nat.le_of_ble_eq_true rfl) ⟨by decide, by decide⟩ ⟨Nat.le_of_ble_eq_true rfl, Nat.le_of_ble_eq_true rfl⟩ d_1_11_133) (fun u285 H locs hp286 V => ?_)
              obtain ⟨hI, hZ9⟩ := hp286
              obtain ⟨hu322, hZ9⟩ := hZ9
              obtain ⟨y288, hZ9⟩ := hZ9
              obtain ⟨y289, hZ9⟩ := hZ9
              obtain ⟨y291, hZ9⟩ := hZ9
              obtain ⟨y292, hZ9⟩ := hZ9
              obtain ⟨f293, hZ9⟩ := hZ9
              obtain ⟨y296, hZ9⟩ := hZ9
              obtain ⟨y297, hZ9⟩ := hZ9
              obtain ⟨f298, hZ9⟩ := hZ9
              obtain ⟨y301, hZ9⟩ := hZ9
              obtain ⟨y302, hZ9⟩ := hZ9
              obtain ⟨f303, hZ9⟩ := hZ9
              obtain ⟨hO287, hZ9⟩ := hZ9
              obtain ⟨hO290, hZ9⟩ := hZ9
              obtain ⟨hA294, hZ9⟩ := hZ9
              obtain ⟨hO295, hZ9⟩ := hZ9
              obtain ⟨hA299, hZ9⟩ := hZ9
              obtain ⟨hO300, hZ9⟩ := hZ9
              obtain ⟨hA304, hZ9⟩ := hZ9
              obtain ⟨b305, hZ9⟩ := hZ9
              obtain ⟨b306, hZ9⟩ := hZ9
              obtain ⟨b307, hZ9⟩ := hZ9
              obtain ⟨b308, hZ9⟩ := hZ9
              obtain ⟨b309, hZ9⟩ := hZ9
              obtain ⟨b310, hZ9⟩ := hZ9
              obtain ⟨b311, hZ9⟩ := hZ9
              obtain ⟨b312, hZ9⟩ := hZ9
              obtain ⟨b313, hZ9⟩ := hZ9
              obtain ⟨b314, hZ9⟩ := hZ9
              obtain ⟨b315, hZ9⟩ := hZ9
              obtain ⟨b316, hZ9⟩ := hZ9
              obtain ⟨b317, hZ9⟩ := hZ9
              obtain ⟨b318, hZ9⟩ := hZ9
              obtain ⟨b319, hZ9⟩ := hZ9
              obtain ⟨b320, hE321⟩ := hZ9
              replace hO287 : u285[30]? = (some (q 30, .inr (5, [.ref (q 31), .long y288, .ref (q 9), .int y289])) : Option (Nat × va_E)) := hO287
              replace hO290 : u285[10]? = (some (q 10, .inr (2, [.ref (q 11), .int y291, .int y292])) : Option (Nat × va_E)) := hO290
              replace hA294 : u285[11]? = (some (q 11, .inl (g 0, (220 : Int32).toNatClampNeg, .inl f293)) : Option (Nat × va_E)) := hA294
              replace hO295 : u285[12]? = (some (q 12, .inr (2, [.ref (q 13), .int y296, .int y297])) : Option (Nat × va_E)) := hO295
              replace hA299 : u285[13]? = (some (q 13, .inl (g 0, (220 : Int32).toNatClampNeg, .inl f298)) : Option (Nat × va_E)) := hA299
              replace hO300 : u285[22]? = (some (q 22, .inr (2, [.ref (q 23), .int y301, .int y302])) : Option (Nat × va_E)) := hO300
              replace hA304 : u285[23]? = (some (q 23, .inl (g 0, (220 : Int32).toNatClampNeg, .inl f303)) : Option (Nat × va_E)) := hA304
              obtain ⟨p323, e324⟩ : ∃ z, z = (F_DW_rest_a (108 : Int32) t0_0 t0_1 t1_0 t1_1 t2_0 t3_0 t3_1 t4_0 t5_0 t5_1 t6_0 t7_0 t7_1 t8_0 t11_0 t11_1 t12_0 t12_1 t13_0) := ⟨_, rfl⟩
              have e325 : y288 = p323.1 := congrArg (fun z => z.1) (hE321.trans e324.symm)
              have e326 : y289 = p323.2.1 := congrArg (fun z => z.2.1) (hE321.trans e324.symm)
              have e327 : y291 = p323.2.2.1 := congrArg (fun z => z.2.2.1) (hE321.trans e324.symm)
              have e328 : y292 = p323.2.2.2.1 := congrArg (fun z => z.2.2.2.1) (hE321.trans e324.symm)
              have e329 : f293 = p323.2.2.2.2.1 := congrArg (fun z => z.2.2.2.2.1) (hE321.trans e324.symm)
              have e330 : y296 = p323.2.2.2.2.2.1 := congrArg (fun z => z.2.2.2.2.2.1) (hE321.trans e324.symm)
              have e331 : y297 = p323.2.2.2.2.2.2.1 := congrArg (fun z => z.2.2.2.2.2.2.1) (hE321.trans e324.symm)
              have e332 : f298 = p323.2.2.2.2.2.2.2.1 := congrArg (fun z => z.2.2.2.2.2.2.2.1) (hE321.trans e324.symm)
              have e333 : y301 = p323.2.2.2.2.2.2.2.2.1 := congrArg (fun z => z.2.2.2.2.2.2.2.2.1) (hE321.trans e324.symm)
              have e334 : y302 = p323.2.2.2.2.2.2.2.2.2.1 := congrArg (fun z => z.2.2.2.2.2.2.2.2.2.1) (hE321.trans e324.symm)
              have e335 : f303 = p323.2.2.2.2.2.2.2.2.2.2 := congrArg (fun z => z.2.2.2.2.2.2.2.2.2.2) (hE321.trans e324.symm)
              replace b305 : q_F (0 ≤ y291.toInt) := b305
              replace b306 : q_F (y291.toInt ≤ 220) := b306
              replace b307 : q_F (0 ≤ y292.toInt) := b307
              replace b308 : q_F (0 ≤ y296.toInt) := b308
              replace b309 : q_F (y296.toInt ≤ 220) := b309
              replace b310 : q_F (0 ≤ y297.toInt) := b310
              replace b311 : q_F (0 ≤ y301.toInt) := b311
              replace b312 : q_F (y301.toInt ≤ 220) := b312
              replace b313 : q_F (0 ≤ y302.toInt) := b313
              replace b314 : q_F (t11_0.toInt ≤ y288.toInt) := b314
              replace b315 : q_F (y288.toInt ≤ t11_0.toInt) := b315
              replace b316 : q_F (t0_1.toInt ≤ y289.toInt) := b316
              replace b317 : q_F (y289.toInt ≤ t0_1.toInt) := b317
              replace b318 : q_F (y292.toInt ≤ t12_1.toInt) := b318
              replace b319 : q_F (y297.toInt ≤ t3_1.toInt) := b319
              replace b320 : q_F (y302.toInt ≤ y292.toInt + 1) := b320
              replace hT9 := (hu322 _ (by decide)).trans hT9
              replace hT10 := (hu322 _ (by decide)).trans hT10
              replace hT14 := (hu322 _ (by have z0 := yd5; simp only [List.mem_cons, List.not_mem_nil, or_false, not_or]; omega)).trans hT14
              replace hT15 := (hu322 _ (by have z0 := yd5; simp only [List.mem_cons, List.not_mem_nil, or_false, not_or]; omega)).trans hT15
              replace hT16 := (hu322 _ (by have z0 := yd5; simp only [List.mem_cons, List.not_mem_nil, or_false, not_or]; omega)).trans hT16
              replace hO106 := (hu322 _ (by decide)).trans hO106
              replace hF := q_uc hF hu322 (by simp)
              have hR336 := (show F_NH_decimal_ab_c133_4 x2 x3 x4 x5 t0_0 t0_1 t1_0 t1_1 t2_0 t3_0 t3_1 t4_0 t5_0 t5_1 t6_0 t7_0 t7_1 t8_0 t9_0 t9_1 t10_0 t11_0 t11_1 t12_0 t12_1 t13_0 t14_0 t14_1 t15_0 t15_1 t16_0 lx71 p323 = (F_NH_decimal_ab x2 x3 x4 x5 t0_0 t0_1 t1_0 t1_1 t2_0 t3_0 t3_1 t4_0 t5_0 t5_1 t6_0 t7_0 t7_1 t8_0 t9_0 t9_1 t10_0 t11_0 t11_1 t12_0 t12_1 t13_0 t14_0 t14_1 t15_0 t15_1 t16_0) from Eq.trans (by rw [e324, F_NH_decimal_ab_J36.eq_1, if_pos c103, if_pos c117, if_neg c119, if_neg c121, if_pos c281]) hR92)
              have hS337 := (show True ∧ S_NH_decimal_ab_c133_4 x2 x3 x4 x5 t0_0 t0_1 t1_0 t1_1 t2_0 t3_0 t3_1 t4_0 t5_0 t5_1 t6_0 t7_0 t7_1 t8_0 t9_0 t9_1 t10_0 t11_0 t11_1 t12_0 t12_1 t13_0 t14_0 t14_1 t15_0 t15_1 t16_0 lx71 p323 from (by rw [e324]; have h := hS93; rw [S_NH_decimal_ab_J36.eq_1] at h; rw [if_pos c103] at h; replace h := q_s2 h; replace h := q_s2 h; replace h := q_s2 h; replace h := q_s2 h; rw [if_pos c117] at h; rw [if_neg c119] at h; rw [if_neg c121] at h; rw [if_pos c281] at h; replace h := q_s2 h; with_reducible exact h))
              refine lv_aload_n hx hb d_1_11_136 rfl (lv_at hl 2 rfl) ?_
              refine lv_iload hx hb d_1_11_137 (lv_at hl 6 rfl) ?_
              have ob341 : True ∧ S_NH_keepDecimal x5 y288 y289 y291 y292 f293 t9_0 t9_1 t10_0 t14_0 t14_1 t15_0 t15_1 t16_0 := (by rw [e329, e328, e327, e326, e325]; have h := hS337; rw [S_NH_decimal_ab_c133_4.eq_1] at h; with_reducible exact h.2.1)
              refine q_goxv V (q_runVX (As := [.int x5]) (rest := []) (d := 8) (mc := 1) (ms := 6) (ci := 0) C0 V rfl LV_NH_281 (X_NH_keepDecimal l D g q u285  x5 d5 hBd5 yd5 gd5x5 hlt hI y288 y289 hO287 y291 y292 hO290 f293 hA294 t9_0 t9_1 hT9 t10_0 hT10 t14_0 t14_1 hT14 t15_0 t15_1 hT15 t16_0 hT16 ob341 _) rfl rfl hO106 rfl hl.1 rfl (Nat.le_of_ble_eq_true rfl) ⟨by decide, by decide⟩ ⟨Nat.le_of_ble_eq_true rfl, Nat.le_of_ble_eq_true rfl⟩ d_1_11_139) (fun qx Ex ce u342 H locs hp343 V hce hcv hcl => ?_) (fun u342 H locs hp343 V => ?_)
              ·
                obtain ⟨cx358, hZ9⟩ := hp343
                obtain ⟨he359, hZ9⟩ := hZ9
                obtain ⟨hc360, hZ9⟩ := hZ9
                obtain ⟨hI, hZ9⟩ := hZ9
                obtain ⟨hu361, hZ9⟩ := hZ9
                obtain ⟨y345, hZ9⟩ := hZ9
                obtain ⟨y346, hZ9⟩ := hZ9
                obtain ⟨f347, hZ9⟩ := hZ9
                obtain ⟨y350, hZ9⟩ := hZ9
                obtain ⟨y351, hZ9⟩ := hZ9
                obtain ⟨y353, hZ9⟩ := hZ9
                obtain ⟨y354, hZ9⟩ := hZ9
                obtain ⟨f355, hZ9⟩ := hZ9
                obtain ⟨hO344, hZ9⟩ := hZ9
                obtain ⟨hA348, hZ9⟩ := hZ9
                obtain ⟨hO349, hZ9⟩ := hZ9
                obtain ⟨hO352, hZ9⟩ := hZ9
                obtain ⟨hA356, hE357⟩ := hZ9
                replace hO344 : u342[20]? = (some (q 20, .inr (2, [.ref (q 21), .int y345, .int y346])) : Option (Nat × va_E)) := hO344
                replace hA348 : u342[21]? = (some (q 21, .inl (g 0, (220 : Int32).toNatClampNeg, .inl f347)) : Option (Nat × va_E)) := hA348
                replace hO349 : u342[d5]? = (some (q d5, .inr (3, [.ref (q (d5 + 1)), .int y350, .int y351])) : Option (Nat × va_E)) := hO349
                replace hO352 : u342[d5 + 1]? = (some (q (d5 + 1), .inr (2, [.ref (q (d5 + 2)), .int y353, .int y354])) : Option (Nat × va_E)) := hO352
                replace hA356 : u342[d5 + 2]? = (some (q (d5 + 2), .inl (g 0, (108 : Int32).toNatClampNeg, .inl f355)) : Option (Nat × va_E)) := hA356
                obtain ⟨p362, e363⟩ : ∃ z, z = (F_NH_keepDecimal x5 y288 y289 y291 y292 f293 t9_0 t9_1 t10_0 t14_0 t14_1 t15_0 t15_1 t16_0) := ⟨_, rfl⟩
                have c364 : ¬ p362.1 = (0 : Int32) := fun z => hc360 (((congrArg (fun z => z.1) (hE357.trans e363.symm)) : cx358 = _).trans z)
                have e365 : y345 = p362.2.1 := congrArg (fun z => z.2.1) (hE357.trans e363.symm)
                have e366 : y346 = p362.2.2.1 := congrArg (fun z => z.2.2.1) (hE357.trans e363.symm)
                have e367 : f347 = p362.2.2.2.1 := congrArg (fun z => z.2.2.2.1) (hE357.trans e363.symm)
                have e368 : y350 = p362.2.2.2.2.1 := congrArg (fun z => z.2.2.2.2.1) (hE357.trans e363.symm)
                have e369 : y351 = p362.2.2.2.2.2.1 := congrArg (fun z => z.2.2.2.2.2.1) (hE357.trans e363.symm)
                have e370 : y353 = p362.2.2.2.2.2.2.1 := congrArg (fun z => z.2.2.2.2.2.2.1) (hE357.trans e363.symm)
                have e371 : y354 = p362.2.2.2.2.2.2.2.1 := congrArg (fun z => z.2.2.2.2.2.2.2.1) (hE357.trans e363.symm)
                have e372 : f355 = p362.2.2.2.2.2.2.2.2 := congrArg (fun z => z.2.2.2.2.2.2.2.2) (hE357.trans e363.symm)
                replace hO287 := (hu361 _ (by have z0 := yd5; simp only [List.mem_cons, List.not_mem_nil, or_false, not_or]; omega)).trans hO287
                replace hO290 := (hu361 _ (by have z0 := yd5; simp only [List.mem_cons, List.not_mem_nil, or_false, not_or]; omega)).trans hO290
                replace hA294 := (hu361 _ (by have z0 := yd5; simp only [List.mem_cons, List.not_mem_nil, or_false, not_or]; omega)).trans hA294
                replace hO295 := (hu361 _ (by have z0 := yd5; simp only [List.mem_cons, List.not_mem_nil, or_false, not_or]; omega)).trans hO295
                replace hA299 := (hu361 _ (by have z0 := yd5; simp only [List.mem_cons, List.not_mem_nil, or_false, not_or]; omega)).trans hA299
                replace hO300 := (hu361 _ (by have z0 := yd5; simp only [List.mem_cons, List.not_mem_nil, or_false, not_or]; omega)).trans hO300
                replace hA304 := (hu361 _ (by have z0 := yd5; simp only [List.mem_cons, List.not_mem_nil, or_false, not_or]; omega)).trans hA304
                replace hF := q_uc hF hu361 (by simp)
                have hR373 := (show F_NH_decimal_ab_c139_5 x2 x3 x4 x5 t0_0 t0_1 t1_0 t1_1 t2_0 t3_0 t3_1 t4_0 t5_0 t5_1 t6_0 t7_0 t7_1 t8_0 t9_0 t9_1 t10_0 t11_0 t11_1 t12_0 t12_1 t13_0 t14_0 t14_1 t15_0 t15_1 t16_0 lx71 p323 y288 y289 y291 y292 f293 y296 y297 f298 y301 y302 f303 p362 = (F_NH_decimal_ab x2 x3 x4 x5 t0_0 t0_1 t1_0 t1_1 t2_0 t3_0 t3_1 t4_0 t5_0 t5_1 t6_0 t7_0 t7_1 t8_0 t9_0 t9_1 t10_0 t11_0 t11_1 t12_0 t12_1 t13_0 t14_0 t14_1 t15_0 t15_1 t16_0) from Eq.trans (by rw [e363, e335, e334, e333, e332, e331, e330, e329, e328, e327, e326, e325, F_NH_decimal_ab_c133_4.eq_1]) hR336)
                have hS374 := (show True ∧ S_NH_decimal_ab_c139_5 x2 x3 x4 x5 t0_0 t0_1 t1_0 t1_1 t2_0 t3_0 t3_1 t4_0 t5_0 t5_1 t6_0 t7_0 t7_1 t8_0 t9_0 t9_1 t10_0 t11_0 t11_1 t12_0 t12_1 t13_0 t14_0 t14_1 t15_0 t15_1 t16_0 lx71 p323 y288 y289 y291 y292 f293 y296 y297 f298 y301 y302 f303 p362 from (by rw [e363, e335, e334, e333, e332, e331, e330, e329, e328, e327, e326, e325]; have h := hS337; rw [S_NH_decimal_ab_c133_4.eq_1] at h; replace h := q_s2 h; with_reducible exact h))
                exact q_outT hno C0 V (⟨p362.1, (he359.trans (congrArg qE ((congrArg (fun z => z.1) (hE357.trans e363.symm)) : cx358 = _))), c364, hI, hF, y288, y289, y291, y292, f293, y296, y297, f298, y301, y302, f303, y345, y346, f347, y350, y351, y353, y354, f355, hO287, hO290, hA294, hO295, hA299, hO300, hA304, hO344, hA348, hO349, hO352, hA356, (show (p362.1, y288, y289, y291, y292, f293, y296, y297, f298, y301, y302, f303, y345, y346, f347, y350, y351, y353, y354, f355) = (F_NH_decimal_ab x2 x3 x4 x5 t0_0 t0_1 t1_0 t1_1 t2_0 t3_0 t3_1 t4_0 t5_0 t5_1 t6_0 t7_0 t7_1 t8_0 t9_0 t9_1 t10_0 t11_0 t11_1 t12_0 t12_1 t13_0 t14_0 t14_1 t15_0 t15_1 t16_0) from Eq.trans (by rw [e372, e371, e370, e369, e368, e367, e366, e365, F_NH_decimal_ab_c139_5.eq_1, if_neg c364]) hR373)⟩) hce hcv hcl (Nat.le_of_ble_eq_true rfl) (Nat.le_of_ble_eq_true rfl)
              ·
                obtain ⟨hI, hZ9⟩ := hp343
                obtain ⟨hu416, hZ9⟩ := hZ9
                obtain ⟨y379, hZ9⟩ := hZ9
                obtain ⟨y380, hZ9⟩ := hZ9
                obtain ⟨f381, hZ9⟩ := hZ9
                obtain ⟨y384, hZ9⟩ := hZ9
                obtain ⟨y385, hZ9⟩ := hZ9
                obtain ⟨y387, hZ9⟩ := hZ9
                obtain ⟨y388, hZ9⟩ := hZ9
                obtain ⟨f389, hZ9⟩ := hZ9
                obtain ⟨hO378, hZ9⟩ := hZ9
                obtain ⟨hA382, hZ9⟩ := hZ9
                obtain ⟨hO383, hZ9⟩ := hZ9
                obtain ⟨hO386, hZ9⟩ := hZ9
                obtain ⟨hA390, hZ9⟩ := hZ9
                obtain ⟨b391, hZ9⟩ := hZ9
                obtain ⟨b392, hZ9⟩ := hZ9
                obtain ⟨b393, hZ9⟩ := hZ9
                obtain ⟨b394, hZ9⟩ := hZ9
                obtain ⟨b395, hZ9⟩ := hZ9
                obtain ⟨b396, hZ9⟩ := hZ9
                obtain ⟨b397, hZ9⟩ := hZ9
                obtain ⟨b398, hZ9⟩ := hZ9
                obtain ⟨b399, hZ9⟩ := hZ9
                obtain ⟨b400, hZ9⟩ := hZ9
                obtain ⟨b401, hZ9⟩ := hZ9
                obtain ⟨b402, hZ9⟩ := hZ9
                obtain ⟨b403, hZ9⟩ := hZ9
                obtain ⟨b404, hZ9⟩ := hZ9
                obtain ⟨b405, hZ9⟩ := hZ9
                obtain ⟨b406, hZ9⟩ := hZ9
                obtain ⟨b407, hZ9⟩ := hZ9
                obtain ⟨b408, hZ9⟩ := hZ9
                obtain ⟨b409, hZ9⟩ := hZ9
                obtain ⟨b410, hZ9⟩ := hZ9
                obtain ⟨b411, hZ9⟩ := hZ9
                obtain ⟨b412, hZ9⟩ := hZ9
                obtain ⟨b413, hZ9⟩ := hZ9
                obtain ⟨b414, hE415⟩ := hZ9
                replace hO378 : u342[20]? = (some (q 20, .inr (2, [.ref (q 21), .int y379, .int y380])) : Option (Nat × va_E)) := hO378
                replace hA382 : u342[21]? = (some (q 21, .inl (g 0, (220 : Int32).toNatClampNeg, .inl f381)) : Option (Nat × va_E)) := hA382
                replace hO383 : u342[d5]? = (some (q d5, .inr (3, [.ref (q (d5 + 1)), .int y384, .int y385])) : Option (Nat × va_E)) := hO383
                replace hO386 : u342[d5 + 1]? = (some (q (d5 + 1), .inr (2, [.ref (q (d5 + 2)), .int y387, .int y388])) : Option (Nat × va_E)) := hO386
                replace hA390 : u342[d5 + 2]? = (some (q (d5 + 2), .inl (g 0, (108 : Int32).toNatClampNeg, .inl f389)) : Option (Nat × va_E)) := hA390
                obtain ⟨p362, e363⟩ : ∃ z, z = (F_NH_keepDecimal x5 y288 y289 y291 y292 f293 t9_0 t9_1 t10_0 t14_0 t14_1 t15_0 t15_1 t16_0) := ⟨_, rfl⟩
                have c364 : p362.1 = (0 : Int32) := ((congrArg (fun z => z.1) (hE415.trans e363.symm)) : (0 : Int32) = _).symm
                have e418 : y379 = p362.2.1 := congrArg (fun z => z.2.1) (hE415.trans e363.symm)
                have e419 : y380 = p362.2.2.1 := congrArg (fun z => z.2.2.1) (hE415.trans e363.symm)
                have e420 : f381 = p362.2.2.2.1 := congrArg (fun z => z.2.2.2.1) (hE415.trans e363.symm)
                have e421 : y384 = p362.2.2.2.2.1 := congrArg (fun z => z.2.2.2.2.1) (hE415.trans e363.symm)
                have e422 : y385 = p362.2.2.2.2.2.1 := congrArg (fun z => z.2.2.2.2.2.1) (hE415.trans e363.symm)
                have e423 : y387 = p362.2.2.2.2.2.2.1 := congrArg (fun z => z.2.2.2.2.2.2.1) (hE415.trans e363.symm)
                have e424 : y388 = p362.2.2.2.2.2.2.2.1 := congrArg (fun z => z.2.2.2.2.2.2.2.1) (hE415.trans e363.symm)
                have e425 : f389 = p362.2.2.2.2.2.2.2.2 := congrArg (fun z => z.2.2.2.2.2.2.2.2) (hE415.trans e363.symm)
                replace b391 : q_F (0 ≤ y379.toInt) := b391
                replace b392 : q_F (y379.toInt ≤ 220) := b392
                replace b393 : q_F (0 ≤ y380.toInt) := b393
                replace b394 : q_F (y380.toInt ≤ 1) := b394
                replace b395 : q_F (0 ≤ y384.toInt + 10000) := b395
                replace b396 : q_F (y384.toInt ≤ 10000) := b396
                replace b397 : q_F (1 ≤ y385.toInt) := b397
                replace b398 : q_F (y385.toInt ≤ 1000) := b398
                replace b399 : q_F (0 ≤ y387.toInt) := b399
                replace b400 : q_F (y387.toInt ≤ 108) := b400
                replace b401 : q_F (0 ≤ y388.toInt) := b401
                replace b402 : q_F (y388.toInt ≤ 1) := b402
                replace b403 : q_F (x5.toInt ≤ y379.toInt + 9) := b403
                replace b404 : q_F (y379.toInt ≤ x5.toInt + 220) := b404
                replace b405 : q_F (x5.toInt ≤ y380.toInt + 9) := b405
                replace b406 : q_F (y380.toInt ≤ x5.toInt + 1) := b406
                replace b407 : q_F (x5.toInt ≤ y384.toInt + 10009) := b407
                replace b408 : q_F (y384.toInt ≤ x5.toInt + 10000) := b408
                replace b409 : q_F (x5.toInt ≤ y385.toInt + 8) := b409
                replace b410 : q_F (y385.toInt ≤ x5.toInt + 1000) := b410
                replace b411 : q_F (x5.toInt ≤ y387.toInt + 9) := b411
                replace b412 : q_F (y387.toInt ≤ x5.toInt + 108) := b412
                replace b413 : q_F (x5.toInt ≤ y388.toInt + 9) := b413
                replace b414 : q_F (y388.toInt ≤ x5.toInt + 1) := b414
                replace hO287 := (hu416 _ (by have z0 := yd5; simp only [List.mem_cons, List.not_mem_nil, or_false, not_or]; omega)).trans hO287
                replace hO290 := (hu416 _ (by have z0 := yd5; simp only [List.mem_cons, List.not_mem_nil, or_false, not_or]; omega)).trans hO290
                replace hA294 := (hu416 _ (by have z0 := yd5; simp only [List.mem_cons, List.not_mem_nil, or_false, not_or]; omega)).trans hA294
                replace hO295 := (hu416 _ (by have z0 := yd5; simp only [List.mem_cons, List.not_mem_nil, or_false, not_or]; omega)).trans hO295
                replace hA299 := (hu416 _ (by have z0 := yd5; simp only [List.mem_cons, List.not_mem_nil, or_false, not_or]; omega)).trans hA299
                replace hO300 := (hu416 _ (by have z0 := yd5; simp only [List.mem_cons, List.not_mem_nil, or_false, not_or]; omega)).trans hO300
                replace hA304 := (hu416 _ (by have z0 := yd5; simp only [List.mem_cons, List.not_mem_nil, or_false, not_or]; omega)).trans hA304
                replace hF := q_uc hF hu416 (by simp)
                have hR373 := (show F_NH_decimal_ab_c139_5 x2 x3 x4 x5 t0_0 t0_1 t1_0 t1_1 t2_0 t3_0 t3_1 t4_0 t5_0 t5_1 t6_0 t7_0 t7_1 t8_0 t9_0 t9_1 t10_0 t11_0 t11_1 t12_0 t12_1 t13_0 t14_0 t14_1 t15_0 t15_1 t16_0 lx71 p323 y288 y289 y291 y292 f293 y296 y297 f298 y301 y302 f303 p362 = (F_NH_decimal_ab x2 x3 x4 x5 t0_0 t0_1 t1_0 t1_1 t2_0 t3_0 t3_1 t4_0 t5_0 t5_1 t6_0 t7_0 t7_1 t8_0 t9_0 t9_1 t10_0 t11_0 t11_1 t12_0 t12_1 t13_0 t14_0 t14_1 t15_0 t15_1 t16_0) from Eq.trans (by rw [e363, e335, e334, e333, e332, e331, e330, e329, e328, e327, e326, e325, F_NH_decimal_ab_c133_4.eq_1]) hR336)
                have hS374 := (show True ∧ S_NH_decimal_ab_c139_5 x2 x3 x4 x5 t0_0 t0_1 t1_0 t1_1 t2_0 t3_0 t3_1 t4_0 t5_0 t5_1 t6_0 t7_0 t7_1 t8_0 t9_0 t9_1 t10_0 t11_0 t11_1 t12_0 t12_1 t13_0 t14_0 t14_1 t15_0 t15_1 t16_0 lx71 p323 y288 y289 y291 y292 f293 y296 y297 f298 y301 y302 f303 p362 from (by rw [e363, e335, e334, e333, e332, e331, e330, e329, e328, e327, e326, e325]; have h := hS337; rw [S_NH_decimal_ab_c133_4.eq_1] at h; replace h := q_s2 h; with_reducible exact h))
                exact q_retX (q_retv C0 V (⟨hI, hF, y288, y289, y291, y292, f293, y296, y297, f298, y301, y302, f303, y379, y380, f381, y384, y385, y387, y388, f389, hO287, hO290, hA294, hO295, hA299, hO300, hA304, hO378, hA382, hO383, hO386, hA390, (show 0 ≤ y288.toInt + 20000 from (by have t1 : -10000 ≤ t11_0.toInt ∧ t11_0.toInt ≤ 10000 := btt11_0; have t2 : t11_0.toInt ≤ y288.toInt := b314; omega)), (show y288.toInt ≤ 20000 from (by have t1 : -10000 ≤ t11_0.toInt ∧ t11_0.toInt ≤ 10000 := btt11_0; have t2 : y288.toInt ≤ t11_0.toInt := b315; omega)), (show 0 ≤ y289.toInt from (by have t1 : 0 ≤ t0_1.toInt ∧ t0_1.toInt ≤ 1 := btt0_1; have t2 : t0_1.toInt ≤ y289.toInt := b316; omega)), (show y289.toInt ≤ 1 from (by have t1 : 0 ≤ t0_1.toInt ∧ t0_1.toInt ≤ 1 := btt0_1; have t2 : y289.toInt ≤ t0_1.toInt := b317; omega)), (show 0 ≤ y291.toInt from (by first | with_reducible exact q_fe b305 | (have t1 : 0 ≤ y291.toInt := b305; omega))), (show y291.toInt ≤ 220 from (by first | with_reducible exact q_fe b306 | (have t1 : y291.toInt ≤ 220 := b306; omega))), (show 0 ≤ y292.toInt from (by first | with_reducible exact q_fe b307 | (have t1 : 0 ≤ y292.toInt := b307; omega))), (show y292.toInt ≤ 1 from (by have t1 : 0 ≤ t12_1.toInt ∧ t12_1.toInt ≤ 1 := btt12_1; have t2 : y292.toInt ≤ t12_1.toInt := b318; omega)), (show 0 ≤ y296.toInt from (by first | with_reducible exact q_fe b308 | (have t1 : 0 ≤ y296.toInt := b308; omega))), (show y296.toInt ≤ 220 from (by first | with_reducible exact q_fe b309 | (have t1 : y296.toInt ≤ 220 := b309; omega))), (show 0 ≤ y297.toInt from (by first | with_reducible exact q_fe b310 | (have t1 : 0 ≤ y297.toInt := b310; omega))), (show y297.toInt ≤ 1 from (by have t1 : 0 ≤ t3_1.toInt ∧ t3_1.toInt ≤ 1 := btt3_1; have t2 : y297.toInt ≤ t3_1.toInt := b319; omega)), (show 0 ≤ y301.toInt from (by first | with_reducible exact q_fe b311 | (have t1 : 0 ≤ y301.toInt := b311; omega))), (show y301.toInt ≤ 220 from (by first | with_reducible exact q_fe b312 | (have t1 : y301.toInt ≤ 220 := b312; omega))), (show 0 ≤ y302.toInt from (by first | with_reducible exact q_fe b313 | (have t1 : 0 ≤ y302.toInt := b313; omega))), (show y302.toInt ≤ 2 from (by have t1 : 0 ≤ t12_1.toInt ∧ t12_1.toInt ≤ 1 := btt12_1; have t2 : y292.toInt ≤ t12_1.toInt := b318; have t3 : y302.toInt ≤ y292.toInt + 1 := b320; omega)), (show 0 ≤ y379.toInt from (by first | with_reducible exact q_fe b391 | (have t1 : 0 ≤ y379.toInt := b391; omega))), (show y379.toInt ≤ 220 from (by first | with_reducible exact q_fe b392 | (have t1 : y379.toInt ≤ 220 := b392; omega))), (show 0 ≤ y380.toInt from (by first | with_reducible exact q_fe b393 | (have t1 : 0 ≤ y380.toInt := b393; omega))), (show y380.toInt ≤ 1 from (by first | with_reducible exact q_fe b394 | (have t1 : y380.toInt ≤ 1 := b394; omega))), (show 0 ≤ y384.toInt + 10000 from (by first | with_reducible exact q_fe b395 | (have t1 : 0 ≤ y384.toInt + 10000 := b395; omega))), (show y384.toInt ≤ 10000 from (by first | with_reducible exact q_fe b396 | (have t1 : y384.toInt ≤ 10000 := b396; omega))), (show 1 ≤ y385.toInt from (by first | with_reducible exact q_fe b397 | (have t1 : 1 ≤ y385.toInt := b397; omega))), (show y385.toInt ≤ 1000 from (by first | with_reducible exact q_fe b398 | (have t1 : y385.toInt ≤ 1000 := b398; omega))), (show 0 ≤ y387.toInt from (by first | with_reducible exact q_fe b399 | (have t1 : 0 ≤ y387.toInt := b399; omega))), (show y387.toInt ≤ 108 from (by first | with_reducible exact q_fe b400 | (have t1 : y387.toInt ≤ 108 := b400; omega))), (show 0 ≤ y388.toInt from (by first | with_reducible exact q_fe b401 | (have t1 : 0 ≤ y388.toInt := b401; omega))), (show y388.toInt ≤ 1 from (by first | with_reducible exact q_fe b402 | (have t1 : y388.toInt ≤ 1 := b402; omega))), (show x3.toInt ≤ y288.toInt + 20009 from (by have t1 : -10000 ≤ t11_0.toInt ∧ t11_0.toInt ≤ 10000 := btt11_0; have t2 : x3.toInt ≤ 9 := ob109; have t3 : t11_0.toInt ≤ y288.toInt := b314; omega)), (show y288.toInt ≤ x3.toInt + 20000 from (by have t1 : -10000 ≤ t11_0.toInt ∧ t11_0.toInt ≤ 10000 := btt11_0; have t2 : 0 ≤ x3.toInt := ob108; have t3 : y288.toInt ≤ t11_0.toInt := b315; omega)), (show x4.toInt ≤ y288.toInt + 20009 from (by have t1 : -10000 ≤ t11_0.toInt ∧ t11_0.toInt ≤ 10000 := btt11_0; have t2 : x4.toInt ≤ 9 := ob114; have t3 : t11_0.toInt ≤ y288.toInt := b314; omega)), (show y288.toInt ≤ x4.toInt + 20000 from (by have t1 : -10000 ≤ t11_0.toInt ∧ t11_0.toInt ≤ 10000 := btt11_0; have t2 : 0 ≤ x4.toInt := ob113; have t3 : y288.toInt ≤ t11_0.toInt := b315; omega)), (show t11_0.toInt ≤ y288.toInt + 10000 from (by first | with_reducible exact q_fe b314 | (have t1 : t11_0.toInt ≤ y288.toInt := b314; omega))), (show y288.toInt ≤ t11_0.toInt + 20000 from (by first | with_reducible exact q_fe b315 | (have t1 : y288.toInt ≤ t11_0.toInt := b315; omega))), (show x3.toInt ≤ y289.toInt + 9 from (by have t1 : 0 ≤ t0_1.toInt ∧ t0_1.toInt ≤ 1 := btt0_1; have t2 : x3.toInt ≤ 9 := ob109; have t3 : t0_1.toInt ≤ y289.toInt := b316; omega)), (show y289.toInt ≤ x3.toInt + 1 from (by have t1 : 0 ≤ t0_1.toInt ∧ t0_1.toInt ≤ 1 := btt0_1; have t2 : 0 ≤ x3.toInt := ob108; have t3 : y289.toInt ≤ t0_1.toInt := b317; omega)), (show x4.toInt ≤ y289.toInt + 9 from (by have t1 : 0 ≤ t0_1.toInt ∧ t0_1.toInt ≤ 1 := btt0_1; have t2 : x4.toInt ≤ 9 := ob114; have t3 : t0_1.toInt ≤ y289.toInt := b316; omega)), (show y289.toInt ≤ x4.toInt + 1 from (by have t1 : 0 ≤ t0_1.toInt ∧ t0_1.toInt ≤ 1 := btt0_1; have t2 : 0 ≤ x4.toInt := ob113; have t3 : y289.toInt ≤ t0_1.toInt := b317; omega)), (show t0_1.toInt ≤ y289.toInt from (by first | with_reducible exact q_fe b316 | (have t1 : t0_1.toInt ≤ y289.toInt := b316; omega))), (show y289.toInt ≤ t0_1.toInt from (by first | with_reducible exact q_fe b317 | (have t1 : y289.toInt ≤ t0_1.toInt := b317; omega))), (show x3.toInt ≤ y291.toInt + 9 from (by have t1 : x3.toInt ≤ 9 := ob109; have t2 : 0 ≤ y291.toInt := b305; omega)), (show y291.toInt ≤ x3.toInt + 220 from (by have t1 : 0 ≤ x3.toInt := ob108; have t2 : y291.toInt ≤ 220 := b306; omega)), (show x4.toInt ≤ y291.toInt + 9 from (by have t1 : x4.toInt ≤ 9 := ob114; have t2 : 0 ≤ y291.toInt := b305; omega)), (show y291.toInt ≤ x4.toInt + 220 from (by have t1 : 0 ≤ x4.toInt := ob113; have t2 : y291.toInt ≤ 220 := b306; omega)), (show x3.toInt ≤ y292.toInt + 9 from (by have t1 : x3.toInt ≤ 9 := ob109; have t2 : 0 ≤ y292.toInt := b307; omega)), (show y292.toInt ≤ x3.toInt + 1 from (by have t1 : 0 ≤ t12_1.toInt ∧ t12_1.toInt ≤ 1 := btt12_1; have t2 : 0 ≤ x3.toInt := ob108; have t3 : y292.toInt ≤ t12_1.toInt := b318; omega)), (show x4.toInt ≤ y292.toInt + 9 from (by have t1 : x4.toInt ≤ 9 := ob114; have t2 : 0 ≤ y292.toInt := b307; omega)), (show y292.toInt ≤ x4.toInt + 1 from (by have t1 : 0 ≤ t12_1.toInt ∧ t12_1.toInt ≤ 1 := btt12_1; have t2 : 0 ≤ x4.toInt := ob113; have t3 : y292.toInt ≤ t12_1.toInt := b318; omega)), (show x3.toInt ≤ y296.toInt + 9 from (by have t1 : x3.toInt ≤ 9 := ob109; have t2 : 0 ≤ y296.toInt := b308; omega)), (show y296.toInt ≤ x3.toInt + 220 from (by have t1 : 0 ≤ x3.toInt := ob108; have t2 : y296.toInt ≤ 220 := b309; omega)), (show x4.toInt ≤ y296.toInt + 9 from (by have t1 : x4.toInt ≤ 9 := ob114; have t2 : 0 ≤ y296.toInt := b308; omega)), (show y296.toInt ≤ x4.toInt + 220 from (by have t1 : 0 ≤ x4.toInt := ob113; have t2 : y296.toInt ≤ 220 := b309; omega)), (show x3.toInt ≤ y297.toInt + 9 from (by have t1 : x3.toInt ≤ 9 := ob109; have t2 : 0 ≤ y297.toInt := b310; omega)), (show y297.toInt ≤ x3.toInt + 1 from (by have t1 : 0 ≤ t3_1.toInt ∧ t3_1.toInt ≤ 1 := btt3_1; have t2 : 0 ≤ x3.toInt := ob108; have t3 : y297.toInt ≤ t3_1.toInt := b319; omega)), (show x4.toInt ≤ y297.toInt + 9 from (by have t1 : x4.toInt ≤ 9 := ob114; have t2 : 0 ≤ y297.toInt := b310; omega)), (show y297.toInt ≤ x4.toInt + 1 from (by have t1 : 0 ≤ t3_1.toInt ∧ t3_1.toInt ≤ 1 := btt3_1; have t2 : 0 ≤ x4.toInt := ob113; have t3 : y297.toInt ≤ t3_1.toInt := b319; omega)), (show y297.toInt ≤ t3_1.toInt from (by first | with_reducible exact q_fe b319 | (have t1 : y297.toInt ≤ t3_1.toInt := b319; omega))), (show x3.toInt ≤ y301.toInt + 9 from (by have t1 : x3.toInt ≤ 9 := ob109; have t2 : 0 ≤ y301.toInt := b311; omega)), (show y301.toInt ≤ x3.toInt + 220 from (by have t1 : 0 ≤ x3.toInt := ob108; have t2 : y301.toInt ≤ 220 := b312; omega)), (show x4.toInt ≤ y301.toInt + 9 from (by have t1 : x4.toInt ≤ 9 := ob114; have t2 : 0 ≤ y301.toInt := b311; omega)), (show y301.toInt ≤ x4.toInt + 220 from (by have t1 : 0 ≤ x4.toInt := ob113; have t2 : y301.toInt ≤ 220 := b312; omega)), (show x3.toInt ≤ y302.toInt + 9 from (by have t1 : x3.toInt ≤ 9 := ob109; have t2 : 0 ≤ y302.toInt := b313; omega)), (show x4.toInt ≤ y302.toInt + 9 from (by have t1 : x4.toInt ≤ 9 := ob114; have t2 : 0 ≤ y302.toInt := b313; omega)), (show y302.toInt ≤ t12_1.toInt + 1 from (by have t1 : y292.toInt ≤ t12_1.toInt := b318; have t2 : y302.toInt ≤ y292.toInt + 1 := b320; omega)), (show x3.toInt ≤ y379.toInt + 9 from (by have t1 : x3.toInt ≤ 9 := ob109; have t2 : 0 ≤ y379.toInt := b391; omega)), (show y379.toInt ≤ x3.toInt + 220 from (by have t1 : 0 ≤ x3.toInt := ob108; have t2 : y379.toInt ≤ 220 := b392; omega)), (show x4.toInt ≤ y379.toInt + 9 from (by have t1 : x4.toInt ≤ 9 := ob114; have t2 : 0 ≤ y379.toInt := b391; omega)), (show y379.toInt ≤ x4.toInt + 220 from (by have t1 : 0 ≤ x4.toInt := ob113; have t2 : y379.toInt ≤ 220 := b392; omega)), (show x5.toInt ≤ y379.toInt + 9 from (by first | with_reducible exact q_fe b403 | (have t1 : x5.toInt ≤ y379.toInt + 9 := b403; omega))), (show y379.toInt ≤ x5.toInt + 220 from (by first | with_reducible exact q_fe b404 | (have t1 : y379.toInt ≤ x5.toInt + 220 := b404; omega))), (show x3.toInt ≤ y380.toInt + 9 from (by have t1 : x3.toInt ≤ 9 := ob109; have t2 : 0 ≤ y380.toInt := b393; omega)), (show y380.toInt ≤ x3.toInt + 1 from (by have t1 : 0 ≤ x3.toInt := ob108; have t2 : y380.toInt ≤ 1 := b394; omega)), (show x4.toInt ≤ y380.toInt + 9 from (by have t1 : x4.toInt ≤ 9 := ob114; have t2 : 0 ≤ y380.toInt := b393; omega)), (show y380.toInt ≤ x4.toInt + 1 from (by have t1 : 0 ≤ x4.toInt := ob113; have t2 : y380.toInt ≤ 1 := b394; omega)), (show x5.toInt ≤ y380.toInt + 9 from (by first | with_reducible exact q_fe b405 | (have t1 : x5.toInt ≤ y380.toInt + 9 := b405; omega))), (show y380.toInt ≤ x5.toInt + 1 from (by first | with_reducible exact q_fe b406 | (have t1 : y380.toInt ≤ x5.toInt + 1 := b406; omega))), (show x3.toInt ≤ y384.toInt + 10009 from (by have t1 : x3.toInt ≤ 9 := ob109; have t2 : 0 ≤ y384.toInt + 10000 := b395; omega)), (show y384.toInt ≤ x3.toInt + 10000 from (by have t1 : 0 ≤ x3.toInt := ob108; have t2 : y384.toInt ≤ 10000 := b396; omega)), (show x4.toInt ≤ y384.toInt + 10009 from (by have t1 : x4.toInt ≤ 9 := ob114; have t2 : 0 ≤ y384.toInt + 10000 := b395; omega)), (show y384.toInt ≤ x4.toInt + 10000 from (by have t1 : 0 ≤ x4.toInt := ob113; have t2 : y384.toInt ≤ 10000 := b396; omega)), (show x5.toInt ≤ y384.toInt + 10009 from (by first | with_reducible exact q_fe b407 | (have t1 : x5.toInt ≤ y384.toInt + 10009 := b407; omega))), (show y384.toInt ≤ x5.toInt + 10000 from (by first | with_reducible exact q_fe b408 | (have t1 : y384.toInt ≤ x5.toInt + 10000 := b408; omega))), (show x3.toInt ≤ y385.toInt + 8 from (by have t1 : x3.toInt ≤ 9 := ob109; have t2 : 1 ≤ y385.toInt := b397; omega)), (show y385.toInt ≤ x3.toInt + 1000 from (by have t1 : 0 ≤ x3.toInt := ob108; have t2 : y385.toInt ≤ 1000 := b398; omega)), (show x4.toInt ≤ y385.toInt + 8 from (by have t1 : x4.toInt ≤ 9 := ob114; have t2 : 1 ≤ y385.toInt := b397; omega)), (show y385.toInt ≤ x4.toInt + 1000 from (by have t1 : 0 ≤ x4.toInt := ob113; have t2 : y385.toInt ≤ 1000 := b398; omega)), (show x5.toInt ≤ y385.toInt + 8 from (by first | with_reducible exact q_fe b409 | (have t1 : x5.toInt ≤ y385.toInt + 8 := b409; omega))), (show y385.toInt ≤ x5.toInt + 1000 from (by first | with_reducible exact q_fe b410 | (have t1 : y385.toInt ≤ x5.toInt + 1000 := b410; omega))), (show x3.toInt ≤ y387.toInt + 9 from (by have t1 : x3.toInt ≤ 9 := ob109; have t2 : 0 ≤ y387.toInt := b399; omega)), (show y387.toInt ≤ x3.toInt + 108 from (by have t1 : 0 ≤ x3.toInt := ob108; have t2 : y387.toInt ≤ 108 := b400; omega)), (show x4.toInt ≤ y387.toInt + 9 from (by have t1 : x4.toInt ≤ 9 := ob114; have t2 : 0 ≤ y387.toInt := b399; omega)), (show y387.toInt ≤ x4.toInt + 108 from (by have t1 : 0 ≤ x4.toInt := ob113; have t2 : y387.toInt ≤ 108 := b400; omega)), (show x5.toInt ≤ y387.toInt + 9 from (by first | with_reducible exact q_fe b411 | (have t1 : x5.toInt ≤ y387.toInt + 9 := b411; omega))), (show y387.toInt ≤ x5.toInt + 108 from (by first | with_reducible exact q_fe b412 | (have t1 : y387.toInt ≤ x5.toInt + 108 := b412; omega))), (show x3.toInt ≤ y388.toInt + 9 from (by have t1 : x3.toInt ≤ 9 := ob109; have t2 : 0 ≤ y388.toInt := b401; omega)), (show y388.toInt ≤ x3.toInt + 1 from (by have t1 : 0 ≤ x3.toInt := ob108; have t2 : y388.toInt ≤ 1 := b402; omega)), (show x4.toInt ≤ y388.toInt + 9 from (by have t1 : x4.toInt ≤ 9 := ob114; have t2 : 0 ≤ y388.toInt := b401; omega)), (show y388.toInt ≤ x4.toInt + 1 from (by have t1 : 0 ≤ x4.toInt := ob113; have t2 : y388.toInt ≤ 1 := b402; omega)), (show x5.toInt ≤ y388.toInt + 9 from (by first | with_reducible exact q_fe b413 | (have t1 : x5.toInt ≤ y388.toInt + 9 := b413; omega))), (show y388.toInt ≤ x5.toInt + 1 from (by first | with_reducible exact q_fe b414 | (have t1 : y388.toInt ≤ x5.toInt + 1 := b414; omega))), (show y302.toInt ≤ y288.toInt + 20001 from (by have t1 : -10000 ≤ t11_0.toInt ∧ t11_0.toInt ≤ 10000 := btt11_0; have t2 : 0 ≤ t12_1.toInt ∧ t12_1.toInt ≤ 1 := btt12_1; have t3 : t11_0.toInt ≤ y288.toInt := b314; have t4 : y292.toInt ≤ t12_1.toInt := b318; have t5 : y302.toInt ≤ y292.toInt + 1 := b320; omega)), (show y302.toInt ≤ y292.toInt + 1 from (by first | with_reducible exact q_fe b320 | (have t1 : y302.toInt ≤ y292.toInt + 1 := b320; omega))), (show ((0 : Int32), y288, y289, y291, y292, f293, y296, y297, f298, y301, y302, f303, y379, y380, f381, y384, y385, y387, y388, f389) = (F_NH_decimal_ab x2 x3 x4 x5 t0_0 t0_1 t1_0 t1_1 t2_0 t3_0 t3_1 t4_0 t5_0 t5_1 t6_0 t7_0 t7_1 t8_0 t9_0 t9_1 t10_0 t11_0 t11_1 t12_0 t12_1 t13_0 t14_0 t14_1 t15_0 t15_1 t16_0) from Eq.trans (by rw [e425, e424, e423, e422, e421, e420, e419, e418, F_NH_decimal_ab_c139_5.eq_1, if_pos c364]) hR373)⟩) d_1_11_142)
        ·
          refine lv_aload_n hx hb d_1_11_92 rfl (lv_at hl 2 rfl) ?_
          refine q_get (ci := 0) (j := 7) (v := .ref (q 30)) C0 V i_NH rfl rfl hO106 (by decide) w_431 rfl d_1_11_93 ?_
          refine lv_aload hx hb d_1_11_96 (lv_at hl 1 rfl) ?_
          refine lv_aload hx hb d_1_11_98 (lv_at hl 0 rfl) ?_
          refine q_gov V (q_runV (As := [.ref (q d3), .ref (q d3)]) (rest := []) (d := 4) (mc := 0) (ms := 0) (ci := 5) C0 V rfl LV_NH_273 (X_DW_multiply l D g q ws d3 108 hBd3 (Or.inr yd3) d3 108 hBd3 (Or.inr yd3)  (by have z0 := yd3; omega) (by have z0 := yd3; omega) (by have z0 := yd3; omega) (by have z0 := yd3; omega) (by have z0 := yd3; omega) (by have z0 := yd3; omega) (by have z0 := yd3; omega) (by have z0 := yd3; omega) (by have z0 := yd3; omega) (by have z0 := yd3; omega) (by have z0 := yd3; omega) (by have z0 := yd3; omega) (by have z0 := yd3; omega) (by have z0 := yd3; omega) (by have z0 := yd3; omega) (by have z0 := yd3; omega) hI t0_0 t0_1 hT0 t1_0 t1_1 hT1 t2_0 hT2 t11_0 t11_1 hT11 t12_0 t12_1 hT12 t13_0 hT13 t11_0 t11_1 hT11 t12_0 t12_1 hT12 t13_0 hT13  _) rfl rfl hT0 rfl hl.1 rfl (Nat.le_of_ble_eq_true rfl) ⟨by decide, by decide⟩ ⟨Nat.le_of_ble_eq_true rfl, Nat.le_of_ble_eq_true rfl⟩ d_1_11_100) (fun u427 H locs hp428 V => ?_)
          obtain ⟨hI, hZ9⟩ := hp428
          obtain ⟨hu448, hZ9⟩ := hZ9
          obtain ⟨y430, hZ9⟩ := hZ9
          obtain ⟨y431, hZ9⟩ := hZ9
          obtain ⟨y433, hZ9⟩ := hZ9
          obtain ⟨y434, hZ9⟩ := hZ9
          obtain ⟨f435, hZ9⟩ := hZ9
          obtain ⟨hO429, hZ9⟩ := hZ9
          obtain ⟨hO432, hZ9⟩ := hZ9
          obtain ⟨hA436, hZ9⟩ := hZ9
          obtain ⟨b437, hZ9⟩ := hZ9
          obtain ⟨b438, hZ9⟩ := hZ9
          obtain ⟨b439, hZ9⟩ := hZ9
          obtain ⟨b440, hZ9⟩ := hZ9
          obtain ⟨b441, hZ9⟩ := hZ9
          replace hZ9 := hZ9.2.2
          obtain ⟨b444, hZ9⟩ := hZ9
          obtain ⟨b445, hZ9⟩ := hZ9
          obtain ⟨b446, hE447⟩ := hZ9
          replace hO429 : u427[30]? = (some (q 30, .inr (5, [.ref (q 31), .long y430, .ref (q 9), .int y431])) : Option (Nat × va_E)) := hO429
          replace hO432 : u427[10]? = (some (q 10, .inr (2, [.ref (q 11), .int y433, .int y434])) : Option (Nat × va_E)) := hO432
          replace hA436 : u427[11]? = (some (q 11, .inl (g 0, (220 : Int32).toNatClampNeg, .inl f435)) : Option (Nat × va_E)) := hA436
          obtain ⟨p449, e450⟩ : ∃ z, z = (F_DW_multiply (108 : Int32) (108 : Int32) t0_0 t0_1 t1_0 t1_1 t2_0 t11_0 t11_1 t12_0 t12_1 t13_0 t11_0 t11_1 t12_0 t12_1 t13_0) := ⟨_, rfl⟩
          have e451 : y430 = p449.1 := congrArg (fun z => z.1) (hE447.trans e450.symm)
          have e452 : y431 = p449.2.1 := congrArg (fun z => z.2.1) (hE447.trans e450.symm)
          have e453 : y433 = p449.2.2.1 := congrArg (fun z => z.2.2.1) (hE447.trans e450.symm)
          have e454 : y434 = p449.2.2.2.1 := congrArg (fun z => z.2.2.2.1) (hE447.trans e450.symm)
          have e455 : f435 = p449.2.2.2.2 := congrArg (fun z => z.2.2.2.2) (hE447.trans e450.symm)
          replace b437 : q_F (y433.toInt ≤ 220) := b437
          replace b438 : q_F (0 ≤ y434.toInt) := b438
          replace b439 : q_F (y434.toInt ≤ 1) := b439
          replace b440 : q_F (t11_0.toInt ≤ y430.toInt + 10000) := b440
          replace b441 : q_F (y430.toInt ≤ t11_0.toInt + 10000) := b441
          replace b444 : q_F (t0_1.toInt ≤ y431.toInt) := b444
          replace b445 : q_F (y431.toInt ≤ t0_1.toInt) := b445
          replace b446 : q_F (y434.toInt ≤ y433.toInt) := b446
          replace hT3 := (hu448 _ (by decide)).trans hT3
          replace hT4 := (hu448 _ (by decide)).trans hT4
          replace hT5 := (hu448 _ (by decide)).trans hT5
          replace hT6 := (hu448 _ (by decide)).trans hT6
          replace hT9 := (hu448 _ (by decide)).trans hT9
          replace hT10 := (hu448 _ (by decide)).trans hT10
          replace hT14 := (hu448 _ (by have z0 := yd5; simp only [List.mem_cons, List.not_mem_nil, or_false, not_or]; omega)).trans hT14
          replace hT15 := (hu448 _ (by have z0 := yd5; simp only [List.mem_cons, List.not_mem_nil, or_false, not_or]; omega)).trans hT15
          replace hT16 := (hu448 _ (by have z0 := yd5; simp only [List.mem_cons, List.not_mem_nil, or_false, not_or]; omega)).trans hT16
          replace hO106 := (hu448 _ (by decide)).trans hO106
          replace hF := q_uc hF hu448 (by simp)
          have hR456 := (show F_NH_decimal_ab_c100 x2 x3 x4 x5 t0_0 t0_1 t1_0 t1_1 t2_0 t3_0 t3_1 t4_0 t5_0 t5_1 t6_0 t7_0 t7_1 t8_0 t9_0 t9_1 t10_0 t11_0 t11_1 t12_0 t12_1 t13_0 t14_0 t14_1 t15_0 t15_1 t16_0 lx71 p449 = (F_NH_decimal_ab x2 x3 x4 x5 t0_0 t0_1 t1_0 t1_1 t2_0 t3_0 t3_1 t4_0 t5_0 t5_1 t6_0 t7_0 t7_1 t8_0 t9_0 t9_1 t10_0 t11_0 t11_1 t12_0 t12_1 t13_0 t14_0 t14_1 t15_0 t15_1 t16_0) from Eq.trans (by rw [e450, F_NH_decimal_ab_J36.eq_1, if_pos c103, if_pos c117, if_pos c119]) hR92)
          have hS457 := (show True ∧ S_NH_decimal_ab_c100 x2 x3 x4 x5 t0_0 t0_1 t1_0 t1_1 t2_0 t3_0 t3_1 t4_0 t5_0 t5_1 t6_0 t7_0 t7_1 t8_0 t9_0 t9_1 t10_0 t11_0 t11_1 t12_0 t12_1 t13_0 t14_0 t14_1 t15_0 t15_1 t16_0 lx71 p449 from (by rw [e450]; have h := hS93; rw [S_NH_decimal_ab_J36.eq_1] at h; rw [if_pos c103] at h; replace h := q_s2 h; replace h := q_s2 h; replace h := q_s2 h; replace h := q_s2 h; rw [if_pos c117] at h; rw [if_pos c119] at h; with_reducible exact h))
          refine lv_goto (tgt := 136) hx hb d_1_11_103 (by decide) ?_
          refine lv_aload_n hx hb d_1_11_136 rfl (lv_at hl 2 rfl) ?_
          refine lv_iload hx hb d_1_11_137 (lv_at hl 6 rfl) ?_
          have ob461 : True ∧ S_NH_keepDecimal x5 y430 y431 y433 y434 f435 t9_0 t9_1 t10_0 t14_0 t14_1 t15_0 t15_1 t16_0 := (by rw [e455, e454, e453, e452, e451]; have h := hS457; rw [S_NH_decimal_ab_c100.eq_1] at h; with_reducible exact h.2.1)
          refine q_goxv V (q_runVX (As := [.int x5]) (rest := []) (d := 8) (mc := 1) (ms := 6) (ci := 0) C0 V rfl LV_NH_281 (X_NH_keepDecimal l D g q u427  x5 d5 hBd5 yd5 gd5x5 hlt hI y430 y431 hO429 y433 y434 hO432 f435 hA436 t9_0 t9_1 hT9 t10_0 hT10 t14_0 t14_1 hT14 t15_0 t15_1 hT15 t16_0 hT16 ob461 _) rfl rfl hO106 rfl hl.1 rfl (Nat.le_of_ble_eq_true rfl) ⟨by decide, by decide⟩ ⟨Nat.le_of_ble_eq_true rfl, Nat.le_of_ble_eq_true rfl⟩ d_1_11_139) (fun qx Ex ce u462 H locs hp463 V hce hcv hcl => ?_) (fun u462 H locs hp463 V => ?_)
          ·
            obtain ⟨cx478, hZ9⟩ := hp463
            obtain ⟨he479, hZ9⟩ := hZ9
            obtain ⟨hc480, hZ9⟩ := hZ9
            obtain ⟨hI, hZ9⟩ := hZ9
            obtain ⟨hu481, hZ9⟩ := hZ9
            obtain ⟨y465, hZ9⟩ := hZ9
            obtain ⟨y466, hZ9⟩ := hZ9
            obtain ⟨f467, hZ9⟩ := hZ9
            obtain ⟨y470, hZ9⟩ := hZ9
            obtain ⟨y471, hZ9⟩ := hZ9
            obtain ⟨y473, hZ9⟩ := hZ9
            obtain ⟨y474, hZ9⟩ := hZ9
            obtain ⟨f475, hZ9⟩ := hZ9
            obtain ⟨hO464, hZ9⟩ := hZ9
            obtain ⟨hA468, hZ9⟩ := hZ9
            obtain ⟨hO469, hZ9⟩ := hZ9
            obtain ⟨hO472, hZ9⟩ := hZ9
            obtain ⟨hA476, hE477⟩ := hZ9
            replace hO464 : u462[20]? = (some (q 20, .inr (2, [.ref (q 21), .int y465, .int y466])) : Option (Nat × va_E)) := hO464
            replace hA468 : u462[21]? = (some (q 21, .inl (g 0, (220 : Int32).toNatClampNeg, .inl f467)) : Option (Nat × va_E)) := hA468
            replace hO469 : u462[d5]? = (some (q d5, .inr (3, [.ref (q (d5 + 1)), .int y470, .int y471])) : Option (Nat × va_E)) := hO469
            replace hO472 : u462[d5 + 1]? = (some (q (d5 + 1), .inr (2, [.ref (q (d5 + 2)), .int y473, .int y474])) : Option (Nat × va_E)) := hO472
            replace hA476 : u462[d5 + 2]? = (some (q (d5 + 2), .inl (g 0, (108 : Int32).toNatClampNeg, .inl f475)) : Option (Nat × va_E)) := hA476
            obtain ⟨p482, e483⟩ : ∃ z, z = (F_NH_keepDecimal x5 y430 y431 y433 y434 f435 t9_0 t9_1 t10_0 t14_0 t14_1 t15_0 t15_1 t16_0) := ⟨_, rfl⟩
            have c484 : ¬ p482.1 = (0 : Int32) := fun z => hc480 (((congrArg (fun z => z.1) (hE477.trans e483.symm)) : cx478 = _).trans z)
            have e485 : y465 = p482.2.1 := congrArg (fun z => z.2.1) (hE477.trans e483.symm)
            have e486 : y466 = p482.2.2.1 := congrArg (fun z => z.2.2.1) (hE477.trans e483.symm)
            have e487 : f467 = p482.2.2.2.1 := congrArg (fun z => z.2.2.2.1) (hE477.trans e483.symm)
            have e488 : y470 = p482.2.2.2.2.1 := congrArg (fun z => z.2.2.2.2.1) (hE477.trans e483.symm)
            have e489 : y471 = p482.2.2.2.2.2.1 := congrArg (fun z => z.2.2.2.2.2.1) (hE477.trans e483.symm)
            have e490 : y473 = p482.2.2.2.2.2.2.1 := congrArg (fun z => z.2.2.2.2.2.2.1) (hE477.trans e483.symm)
            have e491 : y474 = p482.2.2.2.2.2.2.2.1 := congrArg (fun z => z.2.2.2.2.2.2.2.1) (hE477.trans e483.symm)
            have e492 : f475 = p482.2.2.2.2.2.2.2.2 := congrArg (fun z => z.2.2.2.2.2.2.2.2) (hE477.trans e483.symm)
            replace hO429 := (hu481 _ (by have z0 := yd5; simp only [List.mem_cons, List.not_mem_nil, or_false, not_or]; omega)).trans hO429
            replace hO432 := (hu481 _ (by have z0 := yd5; simp only [List.mem_cons, List.not_mem_nil, or_false, not_or]; omega)).trans hO432
            replace hA436 := (hu481 _ (by have z0 := yd5; simp only [List.mem_cons, List.not_mem_nil, or_false, not_or]; omega)).trans hA436
            replace hT3 := (hu481 _ (by have z0 := yd5; simp only [List.mem_cons, List.not_mem_nil, or_false, not_or]; omega)).trans hT3
            replace hT4 := (hu481 _ (by have z0 := yd5; simp only [List.mem_cons, List.not_mem_nil, or_false, not_or]; omega)).trans hT4
            replace hT5 := (hu481 _ (by have z0 := yd5; simp only [List.mem_cons, List.not_mem_nil, or_false, not_or]; omega)).trans hT5
            replace hT6 := (hu481 _ (by have z0 := yd5; simp only [List.mem_cons, List.not_mem_nil, or_false, not_or]; omega)).trans hT6
            replace hF := q_uc hF hu481 (by simp)
            have hR493 := (show F_NH_decimal_ab_c139_7 x2 x3 x4 x5 t0_0 t0_1 t1_0 t1_1 t2_0 t3_0 t3_1 t4_0 t5_0 t5_1 t6_0 t7_0 t7_1 t8_0 t9_0 t9_1 t10_0 t11_0 t11_1 t12_0 t12_1 t13_0 t14_0 t14_1 t15_0 t15_1 t16_0 lx71 p449 y430 y431 y433 y434 f435 p482 = (F_NH_decimal_ab x2 x3 x4 x5 t0_0 t0_1 t1_0 t1_1 t2_0 t3_0 t3_1 t4_0 t5_0 t5_1 t6_0 t7_0 t7_1 t8_0 t9_0 t9_1 t10_0 t11_0 t11_1 t12_0 t12_1 t13_0 t14_0 t14_1 t15_0 t15_1 t16_0) from Eq.trans (by rw [e483, e455, e454, e453, e452, e451, F_NH_decimal_ab_c100.eq_1]) hR456)
            have hS494 := (show True ∧ S_NH_decimal_ab_c139_7 x2 x3 x4 x5 t0_0 t0_1 t1_0 t1_1 t2_0 t3_0 t3_1 t4_0 t5_0 t5_1 t6_0 t7_0 t7_1 t8_0 t9_0 t9_1 t10_0 t11_0 t11_1 t12_0 t12_1 t13_0 t14_0 t14_1 t15_0 t15_1 t16_0 lx71 p449 y430 y431 y433 y434 f435 p482 from (by rw [e483, e455, e454, e453, e452, e451]; have h := hS457; rw [S_NH_decimal_ab_c100.eq_1] at h; replace h := q_s2 h; with_reducible exact h))
            exact q_outT hno C0 V (⟨p482.1, (he479.trans (congrArg qE ((congrArg (fun z => z.1) (hE477.trans e483.symm)) : cx478 = _))), c484, hI, hF, y430, y431, y433, y434, f435, t3_0, t3_1, t4_0, t5_0, t5_1, t6_0, y465, y466, f467, y470, y471, y473, y474, f475, hO429, hO432, hA436, hT3, hT4, hT5, hT6, hO464, hA468, hO469, hO472, hA476, (show (p482.1, y430, y431, y433, y434, f435, t3_0, t3_1, t4_0, t5_0, t5_1, t6_0, y465, y466, f467, y470, y471, y473, y474, f475) = (F_NH_decimal_ab x2 x3 x4 x5 t0_0 t0_1 t1_0 t1_1 t2_0 t3_0 t3_1 t4_0 t5_0 t5_1 t6_0 t7_0 t7_1 t8_0 t9_0 t9_1 t10_0 t11_0 t11_1 t12_0 t12_1 t13_0 t14_0 t14_1 t15_0 t15_1 t16_0) from Eq.trans (by rw [e492, e491, e490, e489, e488, e487, e486, e485, F_NH_decimal_ab_c139_7.eq_1, if_neg c484]) hR493)⟩) hce hcv hcl (Nat.le_of_ble_eq_true rfl) (Nat.le_of_ble_eq_true rfl)
          ·
            obtain ⟨hI, hZ9⟩ := hp463
            obtain ⟨hu536, hZ9⟩ := hZ9
            obtain ⟨y499, hZ9⟩ := hZ9
            obtain ⟨y500, hZ9⟩ := hZ9
            obtain ⟨f501, hZ9⟩ := hZ9
            obtain ⟨y504, hZ9⟩ := hZ9
            obtain ⟨y505, hZ9⟩ := hZ9
            obtain ⟨y507, hZ9⟩ := hZ9
            obtain ⟨y508, hZ9⟩ := hZ9
            obtain ⟨f509, hZ9⟩ := hZ9
            obtain ⟨hO498, hZ9⟩ := hZ9
            obtain ⟨hA502, hZ9⟩ := hZ9
            obtain ⟨hO503, hZ9⟩ := hZ9
            obtain ⟨hO506, hZ9⟩ := hZ9
            obtain ⟨hA510, hZ9⟩ := hZ9
            obtain ⟨b511, hZ9⟩ := hZ9
            obtain ⟨b512, hZ9⟩ := hZ9
            obtain ⟨b513, hZ9⟩ := hZ9
            obtain ⟨b514, hZ9⟩ := hZ9
            obtain ⟨b515, hZ9⟩ := hZ9
            obtain ⟨b516, hZ9⟩ := hZ9
            obtain ⟨b517, hZ9⟩ := hZ9
            obtain ⟨b518, hZ9⟩ := hZ9
            obtain ⟨b519, hZ9⟩ := hZ9
            obtain ⟨b520, hZ9⟩ := hZ9
            obtain ⟨b521, hZ9⟩ := hZ9
            obtain ⟨b522, hZ9⟩ := hZ9
            obtain ⟨b523, hZ9⟩ := hZ9
            obtain ⟨b524, hZ9⟩ := hZ9
            obtain ⟨b525, hZ9⟩ := hZ9
            obtain ⟨b526, hZ9⟩ := hZ9
            obtain ⟨b527, hZ9⟩ := hZ9
            obtain ⟨b528, hZ9⟩ := hZ9
            obtain ⟨b529, hZ9⟩ := hZ9
            obtain ⟨b530, hZ9⟩ := hZ9
            obtain ⟨b531, hZ9⟩ := hZ9
            obtain ⟨b532, hZ9⟩ := hZ9
            obtain ⟨b533, hZ9⟩ := hZ9
            obtain ⟨b534, hE535⟩ := hZ9
            replace hO498 : u462[20]? = (some (q 20, .inr (2, [.ref (q 21), .int y499, .int y500])) : Option (Nat × va_E)) := hO498
            replace hA502 : u462[21]? = (some (q 21, .inl (g 0, (220 : Int32).toNatClampNeg, .inl f501)) : Option (Nat × va_E)) := hA502
            replace hO503 : u462[d5]? = (some (q d5, .inr (3, [.ref (q (d5 + 1)), .int y504, .int y505])) : Option (Nat × va_E)) := hO503
            replace hO506 : u462[d5 + 1]? = (some (q (d5 + 1), .inr (2, [.ref (q (d5 + 2)), .int y507, .int y508])) : Option (Nat × va_E)) := hO506
            replace hA510 : u462[d5 + 2]? = (some (q (d5 + 2), .inl (g 0, (108 : Int32).toNatClampNeg, .inl f509)) : Option (Nat × va_E)) := hA510
            obtain ⟨p482, e483⟩ : ∃ z, z = (F_NH_keepDecimal x5 y430 y431 y433 y434 f435 t9_0 t9_1 t10_0 t14_0 t14_1 t15_0 t15_1 t16_0) := ⟨_, rfl⟩
            have c484 : p482.1 = (0 : Int32) := ((congrArg (fun z => z.1) (hE535.trans e483.symm)) : (0 : Int32) = _).symm
            have e538 : y499 = p482.2.1 := congrArg (fun z => z.2.1) (hE535.trans e483.symm)
            have e539 : y500 = p482.2.2.1 := congrArg (fun z => z.2.2.1) (hE535.trans e483.symm)
            have e540 : f501 = p482.2.2.2.1 := congrArg (fun z => z.2.2.2.1) (hE535.trans e483.symm)
            have e541 : y504 = p482.2.2.2.2.1 := congrArg (fun z => z.2.2.2.2.1) (hE535.trans e483.symm)
            have e542 : y505 = p482.2.2.2.2.2.1 := congrArg (fun z => z.2.2.2.2.2.1) (hE535.trans e483.symm)
            have e543 : y507 = p482.2.2.2.2.2.2.1 := congrArg (fun z => z.2.2.2.2.2.2.1) (hE535.trans e483.symm)
            have e544 : y508 = p482.2.2.2.2.2.2.2.1 := congrArg (fun z => z.2.2.2.2.2.2.2.1) (hE535.trans e483.symm)
            have e545 : f509 = p482.2.2.2.2.2.2.2.2 := congrArg (fun z => z.2.2.2.2.2.2.2.2) (hE535.trans e483.symm)
            replace b511 : q_F (0 ≤ y499.toInt) := b511
            replace b512 : q_F (y499.toInt ≤ 220) := b512
            replace b513 : q_F (0 ≤ y500.toInt) := b513
            replace b514 : q_F (y500.toInt ≤ 1) := b514
            replace b515 : q_F (0 ≤ y504.toInt + 10000) := b515
            replace b516 : q_F (y504.toInt ≤ 10000) := b516
            replace b517 : q_F (1 ≤ y505.toInt) := b517
            replace b518 : q_F (y505.toInt ≤ 1000) := b518
            replace b519 : q_F (0 ≤ y507.toInt) := b519
            replace b520 : q_F (y507.toInt ≤ 108) := b520
            replace b521 : q_F (0 ≤ y508.toInt) := b521
            replace b522 : q_F (y508.toInt ≤ 1) := b522
            replace b523 : q_F (x5.toInt ≤ y499.toInt + 9) := b523
            replace b524 : q_F (y499.toInt ≤ x5.toInt + 220) := b524
            replace b525 : q_F (x5.toInt ≤ y500.toInt + 9) := b525
            replace b526 : q_F (y500.toInt ≤ x5.toInt + 1) := b526
            replace b527 : q_F (x5.toInt ≤ y504.toInt + 10009) := b527
            replace b528 : q_F (y504.toInt ≤ x5.toInt + 10000) := b528
            replace b529 : q_F (x5.toInt ≤ y505.toInt + 8) := b529
            replace b530 : q_F (y505.toInt ≤ x5.toInt + 1000) := b530
            replace b531 : q_F (x5.toInt ≤ y507.toInt + 9) := b531
            replace b532 : q_F (y507.toInt ≤ x5.toInt + 108) := b532
            replace b533 : q_F (x5.toInt ≤ y508.toInt + 9) := b533
            replace b534 : q_F (y508.toInt ≤ x5.toInt + 1) := b534
            replace hO429 := (hu536 _ (by have z0 := yd5; simp only [List.mem_cons, List.not_mem_nil, or_false, not_or]; omega)).trans hO429
            replace hO432 := (hu536 _ (by have z0 := yd5; simp only [List.mem_cons, List.not_mem_nil, or_false, not_or]; omega)).trans hO432
            replace hA436 := (hu536 _ (by have z0 := yd5; simp only [List.mem_cons, List.not_mem_nil, or_false, not_or]; omega)).trans hA436
            replace hT3 := (hu536 _ (by have z0 := yd5; simp only [List.mem_cons, List.not_mem_nil, or_false, not_or]; omega)).trans hT3
            replace hT4 := (hu536 _ (by have z0 := yd5; simp only [List.mem_cons, List.not_mem_nil, or_false, not_or]; omega)).trans hT4
            replace hT5 := (hu536 _ (by have z0 := yd5; simp only [List.mem_cons, List.not_mem_nil, or_false, not_or]; omega)).trans hT5
            replace hT6 := (hu536 _ (by have z0 := yd5; simp only [List.mem_cons, List.not_mem_nil, or_false, not_or]; omega)).trans hT6
            replace hF := q_uc hF hu536 (by simp)
            have hR493 := (show F_NH_decimal_ab_c139_7 x2 x3 x4 x5 t0_0 t0_1 t1_0 t1_1 t2_0 t3_0 t3_1 t4_0 t5_0 t5_1 t6_0 t7_0 t7_1 t8_0 t9_0 t9_1 t10_0 t11_0 t11_1 t12_0 t12_1 t13_0 t14_0 t14_1 t15_0 t15_1 t16_0 lx71 p449 y430 y431 y433 y434 f435 p482 = (F_NH_decimal_ab x2 x3 x4 x5 t0_0 t0_1 t1_0 t1_1 t2_0 t3_0 t3_1 t4_0 t5_0 t5_1 t6_0 t7_0 t7_1 t8_0 t9_0 t9_1 t10_0 t11_0 t11_1 t12_0 t12_1 t13_0 t14_0 t14_1 t15_0 t15_1 t16_0) from Eq.trans (by rw [e483, e455, e454, e453, e452, e451, F_NH_decimal_ab_c100.eq_1]) hR456)
            have hS494 := (show True ∧ S_NH_decimal_ab_c139_7 x2 x3 x4 x5 t0_0 t0_1 t1_0 t1_1 t2_0 t3_0 t3_1 t4_0 t5_0 t5_1 t6_0 t7_0 t7_1 t8_0 t9_0 t9_1 t10_0 t11_0 t11_1 t12_0 t12_1 t13_0 t14_0 t14_1 t15_0 t15_1 t16_0 lx71 p449 y430 y431 y433 y434 f435 p482 from (by rw [e483, e455, e454, e453, e452, e451]; have h := hS457; rw [S_NH_decimal_ab_c100.eq_1] at h; replace h := q_s2 h; with_reducible exact h))
            refine W.widen (k := 3) (n := 18) (Nat.le_of_ble_eq_true rfl) (Nat.le_of_ble_eq_true rfl) ?_
            exact q_retX (q_retv C0 V (⟨hI, hF, y430, y431, y433, y434, f435, t3_0, t3_1, t4_0, t5_0, t5_1, t6_0, y499, y500, f501, y504, y505, y507, y508, f509, hO429, hO432, hA436, hT3, hT4, hT5, hT6, hO498, hA502, hO503, hO506, hA510, (show 0 ≤ y430.toInt + 20000 from (by have t1 : -10000 ≤ t11_0.toInt ∧ t11_0.toInt ≤ 10000 := btt11_0; have t2 : t11_0.toInt ≤ y430.toInt + 10000 := b440; omega)), (show y430.toInt ≤ 20000 from (by have t1 : -10000 ≤ t11_0.toInt ∧ t11_0.toInt ≤ 10000 := btt11_0; have t2 : y430.toInt ≤ t11_0.toInt + 10000 := b441; omega)), (show 0 ≤ y431.toInt from (by have t1 : 0 ≤ t0_1.toInt ∧ t0_1.toInt ≤ 1 := btt0_1; have t2 : t0_1.toInt ≤ y431.toInt := b444; omega)), (show y431.toInt ≤ 1 from (by have t1 : 0 ≤ t0_1.toInt ∧ t0_1.toInt ≤ 1 := btt0_1; have t2 : y431.toInt ≤ t0_1.toInt := b445; omega)), (show 0 ≤ y433.toInt from (by have t1 : 0 ≤ y434.toInt := b438; have t2 : y434.toInt ≤ y433.toInt := b446; omega)), (show y433.toInt ≤ 220 from (by first | with_reducible exact q_fe b437 | (have t1 : y433.toInt ≤ 220 := b437; omega))), (show 0 ≤ y434.toInt from (by first | with_reducible exact q_fe b438 | (have t1 : 0 ≤ y434.toInt := b438; omega))), (show y434.toInt ≤ 1 from (by first | with_reducible exact q_fe b439 | (have t1 : y434.toInt ≤ 1 := b439; omega))), (show 0 ≤ t3_0.toInt from (by first | with_reducible exact (q_fe btt3_0).2 | with_reducible exact (q_fe btt3_0).1 | (have t1 : 0 ≤ t3_0.toInt ∧ t3_0.toInt ≤ 220 := btt3_0; omega))), (show t3_0.toInt ≤ 220 from (by first | with_reducible exact (q_fe btt3_0).2 | with_reducible exact (q_fe btt3_0).1 | (have t1 : 0 ≤ t3_0.toInt ∧ t3_0.toInt ≤ 220 := btt3_0; omega))), (show 0 ≤ t3_1.toInt from (by first | with_reducible exact (q_fe btt3_1).2 | with_reducible exact (q_fe btt3_1).1 | (have t1 : 0 ≤ t3_1.toInt ∧ t3_1.toInt ≤ 1 := btt3_1; omega))), (show t3_1.toInt ≤ 1 from (by first | with_reducible exact (q_fe btt3_1).2 | with_reducible exact (q_fe btt3_1).1 | (have t1 : 0 ≤ t3_1.toInt ∧ t3_1.toInt ≤ 1 := btt3_1; omega))), (show 0 ≤ t5_0.toInt from (by first | with_reducible exact (q_fe btt5_0).2 | with_reducible exact (q_fe btt5_0).1 | (have t1 : 0 ≤ t5_0.toInt ∧ t5_0.toInt ≤ 220 := btt5_0; omega))), (show t5_0.toInt ≤ 220 from (by first | with_reducible exact (q_fe btt5_0).2 | with_reducible exact (q_fe btt5_0).1 | (have t1 : 0 ≤ t5_0.toInt ∧ t5_0.toInt ≤ 220 := btt5_0; omega))), (show 0 ≤ t5_1.toInt from (by first | with_reducible exact (q_fe btt5_1).2 | with_reducible exact (q_fe btt5_1).1 | (have t1 : 0 ≤ t5_1.toInt ∧ t5_1.toInt ≤ 1 := btt5_1; omega))), (show t5_1.toInt ≤ 2 from (by first | with_reducible exact (q_fe btt5_1).2 | with_reducible exact (q_fe btt5_1).1 | (have t1 : 0 ≤ t5_1.toInt ∧ t5_1.toInt ≤ 1 := btt5_1; omega))), (show 0 ≤ y499.toInt from (by first | with_reducible exact q_fe b511 | (have t1 : 0 ≤ y499.toInt := b511; omega))), (show y499.toInt ≤ 220 from (by first | with_reducible exact q_fe b512 | (have t1 : y499.toInt ≤ 220 := b512; omega))), (show 0 ≤ y500.toInt from (by first | with_reducible exact q_fe b513 | (have t1 : 0 ≤ y500.toInt := b513; omega))), (show y500.toInt ≤ 1 from (by first | with_reducible exact q_fe b514 | (have t1 : y500.toInt ≤ 1 := b514; omega))), (show 0 ≤ y504.toInt + 10000 from (by first | with_reducible exact q_fe b515 | (have t1 : 0 ≤ y504.toInt + 10000 := b515; omega))), (show y504.toInt ≤ 10000 from (by first | with_reducible exact q_fe b516 | (have t1 : y504.toInt ≤ 10000 := b516; omega))), (show 1 ≤ y505.toInt from (by first | with_reducible exact q_fe b517 | (have t1 : 1 ≤ y505.toInt := b517; omega))), (show y505.toInt ≤ 1000 from (by first | with_reducible exact q_fe b518 | (have t1 : y505.toInt ≤ 1000 := b518; omega))), (show 0 ≤ y507.toInt from (by first | with_reducible exact q_fe b519 | (have t1 : 0 ≤ y507.toInt := b519; omega))), (show y507.toInt ≤ 108 from (by first | with_reducible exact q_fe b520 | (have t1 : y507.toInt ≤ 108 := b520; omega))), (show 0 ≤ y508.toInt from (by first | with_reducible exact q_fe b521 | (have t1 : 0 ≤ y508.toInt := b521; omega))), (show y508.toInt ≤ 1 from (by first | with_reducible exact q_fe b522 | (have t1 : y508.toInt ≤ 1 := b522; omega))), (show x3.toInt ≤ y430.toInt + 20009 from (by have t1 : -10000 ≤ t11_0.toInt ∧ t11_0.toInt ≤ 10000 := btt11_0; have t2 : x3.toInt ≤ 9 := ob109; have t3 : t11_0.toInt ≤ y430.toInt + 10000 := b440; omega)), (show y430.toInt ≤ x3.toInt + 20000 from (by have t1 : -10000 ≤ t11_0.toInt ∧ t11_0.toInt ≤ 10000 := btt11_0; have t2 : 0 ≤ x3.toInt := ob108; have t3 : y430.toInt ≤ t11_0.toInt + 10000 := b441; omega)), (show x4.toInt ≤ y430.toInt + 20009 from (by have t1 : -10000 ≤ t11_0.toInt ∧ t11_0.toInt ≤ 10000 := btt11_0; have t2 : x4.toInt ≤ 9 := ob114; have t3 : t11_0.toInt ≤ y430.toInt + 10000 := b440; omega)), (show y430.toInt ≤ x4.toInt + 20000 from (by have t1 : -10000 ≤ t11_0.toInt ∧ t11_0.toInt ≤ 10000 := btt11_0; have t2 : 0 ≤ x4.toInt := ob113; have t3 : y430.toInt ≤ t11_0.toInt + 10000 := b441; omega)), (show t11_0.toInt ≤ y430.toInt + 10000 from (by first | with_reducible exact q_fe b440 | (have t1 : t11_0.toInt ≤ y430.toInt + 10000 := b440; omega))), (show y430.toInt ≤ t11_0.toInt + 20000 from (by first | with_reducible exact q_fe b441 | (have t1 : y430.toInt ≤ t11_0.toInt + 10000 := b441; omega))), (show x3.toInt ≤ y431.toInt + 9 from (by have t1 : 0 ≤ t0_1.toInt ∧ t0_1.toInt ≤ 1 := btt0_1; have t2 : x3.toInt ≤ 9 := ob109; have t3 : t0_1.toInt ≤ y431.toInt := b444; omega)), (show y431.toInt ≤ x3.toInt + 1 from (by have t1 : 0 ≤ t0_1.toInt ∧ t0_1.toInt ≤ 1 := btt0_1; have t2 : 0 ≤ x3.toInt := ob108; have t3 : y431.toInt ≤ t0_1.toInt := b445; omega)), (show x4.toInt ≤ y431.toInt + 9 from (by have t1 : 0 ≤ t0_1.toInt ∧ t0_1.toInt ≤ 1 := btt0_1; have t2 : x4.toInt ≤ 9 := ob114; have t3 : t0_1.toInt ≤ y431.toInt := b444; omega)), (show y431.toInt ≤ x4.toInt + 1 from (by have t1 : 0 ≤ t0_1.toInt ∧ t0_1.toInt ≤ 1 := btt0_1; have t2 : 0 ≤ x4.toInt := ob113; have t3 : y431.toInt ≤ t0_1.toInt := b445; omega)), (show t0_1.toInt ≤ y431.toInt from (by first | with_reducible exact q_fe b444 | (have t1 : t0_1.toInt ≤ y431.toInt := b444; omega))), (show y431.toInt ≤ t0_1.toInt from (by first | with_reducible exact q_fe b445 | (have t1 : y431.toInt ≤ t0_1.toInt := b445; omega))), (show x3.toInt ≤ y433.toInt + 9 from (by have t1 : x3.toInt ≤ 9 := ob109; have t2 : 0 ≤ y434.toInt := b438; have t3 : y434.toInt ≤ y433.toInt := b446; omega)), (show y433.toInt ≤ x3.toInt + 220 from (by have t1 : 0 ≤ x3.toInt := ob108; have t2 : y433.toInt ≤ 220 := b437; omega)), (show x4.toInt ≤ y433.toInt + 9 from (by have t1 : x4.toInt ≤ 9 := ob114; have t2 : 0 ≤ y434.toInt := b438; have t3 : y434.toInt ≤ y433.toInt := b446; omega)), (show y433.toInt ≤ x4.toInt + 220 from (by have t1 : 0 ≤ x4.toInt := ob113; have t2 : y433.toInt ≤ 220 := b437; omega)), (show x3.toInt ≤ y434.toInt + 9 from (by have t1 : x3.toInt ≤ 9 := ob109; have t2 : 0 ≤ y434.toInt := b438; omega)), (show y434.toInt ≤ x3.toInt + 1 from (by have t1 : 0 ≤ x3.toInt := ob108; have t2 : y434.toInt ≤ 1 := b439; omega)), (show x4.toInt ≤ y434.toInt + 9 from (by have t1 : x4.toInt ≤ 9 := ob114; have t2 : 0 ≤ y434.toInt := b438; omega)), (show y434.toInt ≤ x4.toInt + 1 from (by have t1 : 0 ≤ x4.toInt := ob113; have t2 : y434.toInt ≤ 1 := b439; omega)), (show x3.toInt ≤ t3_0.toInt + 9 from (by have t1 : 0 ≤ t3_0.toInt ∧ t3_0.toInt ≤ 220 := btt3_0; have t2 : x3.toInt ≤ 9 := ob109; omega)), (show t3_0.toInt ≤ x3.toInt + 220 from (by have t1 : 0 ≤ t3_0.toInt ∧ t3_0.toInt ≤ 220 := btt3_0; have t2 : 0 ≤ x3.toInt := ob108; omega)), (show x4.toInt ≤ t3_0.toInt + 9 from (by have t1 : 0 ≤ t3_0.toInt ∧ t3_0.toInt ≤ 220 := btt3_0; have t2 : x4.toInt ≤ 9 := ob114; omega)), (show t3_0.toInt ≤ x4.toInt + 220 from (by have t1 : 0 ≤ t3_0.toInt ∧ t3_0.toInt ≤ 220 := btt3_0; have t2 : 0 ≤ x4.toInt := ob113; omega)), (show x3.toInt ≤ t3_1.toInt + 9 from (by have t1 : 0 ≤ t3_1.toInt ∧ t3_1.toInt ≤ 1 := btt3_1; have t2 : x3.toInt ≤ 9 := ob109; omega)), (show t3_1.toInt ≤ x3.toInt + 1 from (by have t1 : 0 ≤ t3_1.toInt ∧ t3_1.toInt ≤ 1 := btt3_1; have t2 : 0 ≤ x3.toInt := ob108; omega)), (show x4.toInt ≤ t3_1.toInt + 9 from (by have t1 : 0 ≤ t3_1.toInt ∧ t3_1.toInt ≤ 1 := btt3_1; have t2 : x4.toInt ≤ 9 := ob114; omega)), (show t3_1.toInt ≤ x4.toInt + 1 from (by have t1 : 0 ≤ t3_1.toInt ∧ t3_1.toInt ≤ 1 := btt3_1; have t2 : 0 ≤ x4.toInt := ob113; omega)), (show t3_1.toInt ≤ t3_1.toInt from (by omega)), (show x3.toInt ≤ t5_0.toInt + 9 from (by have t1 : 0 ≤ t5_0.toInt ∧ t5_0.toInt ≤ 220 := btt5_0; have t2 : x3.toInt ≤ 9 := ob109; omega)), (show t5_0.toInt ≤ x3.toInt + 220 from (by have t1 : 0 ≤ t5_0.toInt ∧ t5_0.toInt ≤ 220 := btt5_0; have t2 : 0 ≤ x3.toInt := ob108; omega)), (show x4.toInt ≤ t5_0.toInt + 9 from (by have t1 : 0 ≤ t5_0.toInt ∧ t5_0.toInt ≤ 220 := btt5_0; have t2 : x4.toInt ≤ 9 := ob114; omega)), (show t5_0.toInt ≤ x4.toInt + 220 from (by have t1 : 0 ≤ t5_0.toInt ∧ t5_0.toInt ≤ 220 := btt5_0; have t2 : 0 ≤ x4.toInt := ob113; omega)), (show x3.toInt ≤ t5_1.toInt + 9 from (by have t1 : 0 ≤ t5_1.toInt ∧ t5_1.toInt ≤ 1 := btt5_1; have t2 : x3.toInt ≤ 9 := ob109; omega)), (show x4.toInt ≤ t5_1.toInt + 9 from (by have t1 : 0 ≤ t5_1.toInt ∧ t5_1.toInt ≤ 1 := btt5_1; have t2 : x4.toInt ≤ 9 := ob114; omega)), (show t5_1.toInt ≤ t12_1.toInt + 1 from (by have t1 : 0 ≤ t5_1.toInt ∧ t5_1.toInt ≤ 1 := btt5_1; have t2 : 0 ≤ t12_1.toInt ∧ t12_1.toInt ≤ 1 := btt12_1; omega)), (show x3.toInt ≤ y499.toInt + 9 from (by have t1 : x3.toInt ≤ 9 := ob109; have t2 : 0 ≤ y499.toInt := b511; omega)), (show y499.toInt ≤ x3.toInt + 220 from (by have t1 : 0 ≤ x3.toInt := ob108; have t2 : y499.toInt ≤ 220 := b512; omega)), (show x4.toInt ≤ y499.toInt + 9 from (by have t1 : x4.toInt ≤ 9 := ob114; have t2 : 0 ≤ y499.toInt := b511; omega)), (show y499.toInt ≤ x4.toInt + 220 from (by have t1 : 0 ≤ x4.toInt := ob113; have t2 : y499.toInt ≤ 220 := b512; omega)), (show x5.toInt ≤ y499.toInt + 9 from (by first | with_reducible exact q_fe b523 | (have t1 : x5.toInt ≤ y499.toInt + 9 := b523; omega))), (show y499.toInt ≤ x5.toInt + 220 from (by first | with_reducible exact q_fe b524 | (have t1 : y499.toInt ≤ x5.toInt + 220 := b524; omega))), (show x3.toInt ≤ y500.toInt + 9 from (by have t1 : x3.toInt ≤ 9 := ob109; have t2 : 0 ≤ y500.toInt := b513; omega)), (show y500.toInt ≤ x3.toInt + 1 from (by have t1 : 0 ≤ x3.toInt := ob108; have t2 : y500.toInt ≤ 1 := b514; omega)), (show x4.toInt ≤ y500.toInt + 9 from (by have t1 : x4.toInt ≤ 9 := ob114; have t2 : 0 ≤ y500.toInt := b513; omega)), (show y500.toInt ≤ x4.toInt + 1 from (by have t1 : 0 ≤ x4.toInt := ob113; have t2 : y500.toInt ≤ 1 := b514; omega)), (show x5.toInt ≤ y500.toInt + 9 from (by first | with_reducible exact q_fe b525 | (have t1 : x5.toInt ≤ y500.toInt + 9 := b525; omega))), (show y500.toInt ≤ x5.toInt + 1 from (by first | with_reducible exact q_fe b526 | (have t1 : y500.toInt ≤ x5.toInt + 1 := b526; omega))), (show x3.toInt ≤ y504.toInt + 10009 from (by have t1 : x3.toInt ≤ 9 := ob109; have t2 : 0 ≤ y504.toInt + 10000 := b515; omega)), (show y504.toInt ≤ x3.toInt + 10000 from (by have t1 : 0 ≤ x3.toInt := ob108; have t2 : y504.toInt ≤ 10000 := b516; omega)), (show x4.toInt ≤ y504.toInt + 10009 from (by have t1 : x4.toInt ≤ 9 := ob114; have t2 : 0 ≤ y504.toInt + 10000 := b515; omega)), (show y504.toInt ≤ x4.toInt + 10000 from (by have t1 : 0 ≤ x4.toInt := ob113; have t2 : y504.toInt ≤ 10000 := b516; omega)), (show x5.toInt ≤ y504.toInt + 10009 from (by first | with_reducible exact q_fe b527 | (have t1 : x5.toInt ≤ y504.toInt + 10009 := b527; omega))), (show y504.toInt ≤ x5.toInt + 10000 from (by first | with_reducible exact q_fe b528 | (have t1 : y504.toInt ≤ x5.toInt + 10000 := b528; omega))), (show x3.toInt ≤ y505.toInt + 8 from (by have t1 : x3.toInt ≤ 9 := ob109; have t2 : 1 ≤ y505.toInt := b517; omega)), (show y505.toInt ≤ x3.toInt + 1000 from (by have t1 : 0 ≤ x3.toInt := ob108; have t2 : y505.toInt ≤ 1000 := b518; omega)), (show x4.toInt ≤ y505.toInt + 8 from (by have t1 : x4.toInt ≤ 9 := ob114; have t2 : 1 ≤ y505.toInt := b517; omega)), (show y505.toInt ≤ x4.toInt + 1000 from (by have t1 : 0 ≤ x4.toInt := ob113; have t2 : y505.toInt ≤ 1000 := b518; omega)), (show x5.toInt ≤ y505.toInt + 8 from (by first | with_reducible exact q_fe b529 | (have t1 : x5.toInt ≤ y505.toInt + 8 := b529; omega))), (show y505.toInt ≤ x5.toInt + 1000 from (by first | with_reducible exact q_fe b530 | (have t1 : y505.toInt ≤ x5.toInt + 1000 := b530; omega))), (show x3.toInt ≤ y507.toInt + 9 from (by have t1 : x3.toInt ≤ 9 := ob109; have t2 : 0 ≤ y507.toInt := b519; omega)), (show y507.toInt ≤ x3.toInt + 108 from (by have t1 : 0 ≤ x3.toInt := ob108; have t2 : y507.toInt ≤ 108 := b520; omega)), (show x4.toInt ≤ y507.toInt + 9 from (by have t1 : x4.toInt ≤ 9 := ob114; have t2 : 0 ≤ y507.toInt := b519; omega)), (show y507.toInt ≤ x4.toInt + 108 from (by have t1 : 0 ≤ x4.toInt := ob113; have t2 : y507.toInt ≤ 108 := b520; omega)), (show x5.toInt ≤ y507.toInt + 9 from (by first | with_reducible exact q_fe b531 | (have t1 : x5.toInt ≤ y507.toInt + 9 := b531; omega))), (show y507.toInt ≤ x5.toInt + 108 from (by first | with_reducible exact q_fe b532 | (have t1 : y507.toInt ≤ x5.toInt + 108 := b532; omega))), (show x3.toInt ≤ y508.toInt + 9 from (by have t1 : x3.toInt ≤ 9 := ob109; have t2 : 0 ≤ y508.toInt := b521; omega)), (show y508.toInt ≤ x3.toInt + 1 from (by have t1 : 0 ≤ x3.toInt := ob108; have t2 : y508.toInt ≤ 1 := b522; omega)), (show x4.toInt ≤ y508.toInt + 9 from (by have t1 : x4.toInt ≤ 9 := ob114; have t2 : 0 ≤ y508.toInt := b521; omega)), (show y508.toInt ≤ x4.toInt + 1 from (by have t1 : 0 ≤ x4.toInt := ob113; have t2 : y508.toInt ≤ 1 := b522; omega)), (show x5.toInt ≤ y508.toInt + 9 from (by first | with_reducible exact q_fe b533 | (have t1 : x5.toInt ≤ y508.toInt + 9 := b533; omega))), (show y508.toInt ≤ x5.toInt + 1 from (by first | with_reducible exact q_fe b534 | (have t1 : y508.toInt ≤ x5.toInt + 1 := b534; omega))), (show t5_1.toInt ≤ y430.toInt + 20001 from (by have t1 : 0 ≤ t5_1.toInt ∧ t5_1.toInt ≤ 1 := btt5_1; have t2 : -10000 ≤ t11_0.toInt ∧ t11_0.toInt ≤ 10000 := btt11_0; have t3 : t11_0.toInt ≤ y430.toInt + 10000 := b440; omega)), (show t5_1.toInt ≤ y434.toInt + 1 from (by have t1 : 0 ≤ t5_1.toInt ∧ t5_1.toInt ≤ 1 := btt5_1; have t2 : 0 ≤ y434.toInt := b438; omega)), (show ((0 : Int32), y430, y431, y433, y434, f435, t3_0, t3_1, t4_0, t5_0, t5_1, t6_0, y499, y500, f501, y504, y505, y507, y508, f509) = (F_NH_decimal_ab x2 x3 x4 x5 t0_0 t0_1 t1_0 t1_1 t2_0 t3_0 t3_1 t4_0 t5_0 t5_1 t6_0 t7_0 t7_1 t8_0 t9_0 t9_1 t10_0 t11_0 t11_1 t12_0 t12_1 t13_0 t14_0 t14_1 t15_0 t15_1 t16_0) from Eq.trans (by rw [e545, e544, e543, e542, e541, e540, e539, e538, F_NH_decimal_ab_c139_7.eq_1, if_pos c484]) hR493)⟩) d_1_11_142)
      ·
        refine lv_aload_n hx hb d_1_11_60 rfl (lv_at hl 2 rfl) ?_
        refine q_get (ci := 0) (j := 7) (v := .ref (q 30)) C0 V i_NH rfl rfl hO106 (by decide) w_431 rfl d_1_11_61 ?_
        refine lv_aload hx hb d_1_11_64 (lv_at hl 1 rfl) ?_
        refine lv_aload hx hb d_1_11_66 (lv_at hl 0 rfl) ?_
        refine lv_iload_n hx hb d_1_11_68 rfl (lv_at hl 3 rfl) ?_
        refine lv_iconst (v := 1) hx hb d_1_11_69 (by decide) ?_
        refine lv_icmp_ne (tgt := 77) hx hb d_1_11_70 (by decide) (fun c547 => ?_) (fun c547 => ?_)
        ·
          refine lv_iconst (v := 0) hx hb d_1_11_77 (by decide) ?_
          refine q_goi V (q_runV (As := [.ref (q d3), .ref (q d3), .int 0]) (rest := []) (d := 4) (mc := 0) (ms := 0) (ci := 5) C0 V rfl LV_NH_269 (X_DW_sum l D g q ws d3 108 hBd3 (Or.inr yd3) d3 108 hBd3 (Or.inr yd3) 0 (by have z0 := yd3; omega) (by have z0 := yd3; omega) (by have z0 := yd3; omega) (by have z0 := yd3; omega) (by have z0 := yd3; omega) (by have z0 := yd3; omega) (by have z0 := yd3; omega) (by have z0 := yd3; omega) (by have z0 := yd3; omega) (by have z0 := yd3; omega) (by have z0 := yd3; omega) (by have z0 := yd3; omega) (by have z0 := yd3; omega) (by have z0 := yd3; omega) (by have z0 := yd3; omega) (by have z0 := yd3; omega) (by have z0 := yd3; omega) (by have z0 := yd3; omega) (by have z0 := yd3; omega) (by have z0 := yd3; omega) (by have z0 := yd3; omega) (by have z0 := yd3; omega) (by have z0 := yd3; omega) (by have z0 := yd3; omega) hI t0_0 t0_1 hT0 t1_0 t1_1 hT1 t2_0 hT2 t5_0 t5_1 hT5 t6_0 hT6 t11_0 t11_1 hT11 t12_0 t12_1 hT12 t13_0 hT13 t11_0 t11_1 hT11 t12_0 t12_1 hT12 t13_0 hT13 ⟨(by have y0 : (108 : Int32).toInt = 108 := rfl; have y1 : (108 : Int32).toInt = 108 := rfl; have y2 : (0 : Int32).toInt = 0 := rfl; omega), (by have y0 : (108 : Int32).toInt = 108 := rfl; have y1 : (108 : Int32).toInt = 108 := rfl; have y2 : (0 : Int32).toInt = 0 := rfl; omega)⟩ _) rfl rfl hT0 rfl hl.1 rfl (Nat.le_of_ble_eq_true rfl) ⟨by decide, by decide⟩ ⟨Nat.le_of_ble_eq_true rfl, Nat.le_of_ble_eq_true rfl⟩ d_1_11_78) (fun a551 u549 H locs hp550 V => ?_)
          obtain ⟨hI, hZ9⟩ := hp550
          obtain ⟨hu581, hZ9⟩ := hZ9
          obtain ⟨y553, hZ9⟩ := hZ9
          obtain ⟨y554, hZ9⟩ := hZ9
          obtain ⟨y556, hZ9⟩ := hZ9
          obtain ⟨y557, hZ9⟩ := hZ9
          obtain ⟨f558, hZ9⟩ := hZ9
          obtain ⟨y561, hZ9⟩ := hZ9
          obtain ⟨y562, hZ9⟩ := hZ9
          obtain ⟨f563, hZ9⟩ := hZ9
          obtain ⟨hO552, hZ9⟩ := hZ9
          obtain ⟨hO555, hZ9⟩ := hZ9
          obtain ⟨hA559, hZ9⟩ := hZ9
          obtain ⟨hO560, hZ9⟩ := hZ9
          obtain ⟨hA564, hZ9⟩ := hZ9
          obtain ⟨b565, hZ9⟩ := hZ9
          obtain ⟨b566, hZ9⟩ := hZ9
          obtain ⟨b567, hZ9⟩ := hZ9
          obtain ⟨b568, hZ9⟩ := hZ9
          obtain ⟨b569, hZ9⟩ := hZ9
          obtain ⟨b570, hZ9⟩ := hZ9
          obtain ⟨b571, hZ9⟩ := hZ9
          obtain ⟨b572, hZ9⟩ := hZ9
          obtain ⟨b573, hZ9⟩ := hZ9
          obtain ⟨b574, hZ9⟩ := hZ9
          obtain ⟨b575, hZ9⟩ := hZ9
          obtain ⟨b576, hZ9⟩ := hZ9
          replace hZ9 := hZ9.2
          obtain ⟨b578, hZ9⟩ := hZ9
          obtain ⟨b579, hE580⟩ := hZ9
          replace hO552 : u549[30]? = (some (q 30, .inr (5, [.ref (q 31), .long y553, .ref (q 9), .int y554])) : Option (Nat × va_E)) := hO552
          replace hO555 : u549[10]? = (some (q 10, .inr (2, [.ref (q 11), .int y556, .int y557])) : Option (Nat × va_E)) := hO555
          replace hA559 : u549[11]? = (some (q 11, .inl (g 0, (220 : Int32).toNatClampNeg, .inl f558)) : Option (Nat × va_E)) := hA559
          replace hO560 : u549[22]? = (some (q 22, .inr (2, [.ref (q 23), .int y561, .int y562])) : Option (Nat × va_E)) := hO560
          replace hA564 : u549[23]? = (some (q 23, .inl (g 0, (220 : Int32).toNatClampNeg, .inl f563)) : Option (Nat × va_E)) := hA564
          obtain ⟨p582, e583⟩ : ∃ z, z = (F_DW_sum (108 : Int32) (108 : Int32) (0 : Int32) t0_0 t0_1 t1_0 t1_1 t2_0 t5_0 t5_1 t6_0 t11_0 t11_1 t12_0 t12_1 t13_0 t11_0 t11_1 t12_0 t12_1 t13_0) := ⟨_, rfl⟩
          have e584 : a551 = p582.1 := congrArg (fun z => z.1) (hE580.trans e583.symm)
          have e585 : y553 = p582.2.1 := congrArg (fun z => z.2.1) (hE580.trans e583.symm)
          have e586 : y554 = p582.2.2.1 := congrArg (fun z => z.2.2.1) (hE580.trans e583.symm)
          have e587 : y556 = p582.2.2.2.1 := congrArg (fun z => z.2.2.2.1) (hE580.trans e583.symm)
          have e588 : y557 = p582.2.2.2.2.1 := congrArg (fun z => z.2.2.2.2.1) (hE580.trans e583.symm)
          have e589 : f558 = p582.2.2.2.2.2.1 := congrArg (fun z => z.2.2.2.2.2.1) (hE580.trans e583.symm)
          have e590 : y561 = p582.2.2.2.2.2.2.1 := congrArg (fun z => z.2.2.2.2.2.2.1) (hE580.trans e583.symm)
          have e591 : y562 = p582.2.2.2.2.2.2.2.1 := congrArg (fun z => z.2.2.2.2.2.2.2.1) (hE580.trans e583.symm)
          have e592 : f563 = p582.2.2.2.2.2.2.2.2 := congrArg (fun z => z.2.2.2.2.2.2.2.2) (hE580.trans e583.symm)
          replace b565 : q_F (0 ≤ a551.toInt) := b565
          replace b566 : q_F (a551.toInt ≤ 1) := b566
          replace b567 : q_F (y553.toInt ≤ 10000) := b567
          replace b568 : q_F (0 ≤ y556.toInt) := b568
          replace b569 : q_F (y556.toInt ≤ 220) := b569
          replace b570 : q_F (0 ≤ y557.toInt) := b570
          replace b571 : q_F (y557.toInt ≤ 1) := b571
          replace b572 : q_F (0 ≤ y561.toInt) := b572
          replace b573 : q_F (y561.toInt ≤ 220) := b573
          replace b574 : q_F (0 ≤ y562.toInt) := b574
          replace b575 : q_F (y562.toInt ≤ 1) := b575
          replace b576 : q_F (t11_0.toInt ≤ y553.toInt) := b576
          replace b578 : q_F (t0_1.toInt ≤ y554.toInt) := b578
          replace b579 : q_F (y554.toInt ≤ t0_1.toInt) := b579
          replace hT3 := (hu581 _ (by decide)).trans hT3
          replace hT4 := (hu581 _ (by decide)).trans hT4
          replace hT9 := (hu581 _ (by decide)).trans hT9
          replace hT10 := (hu581 _ (by decide)).trans hT10
          replace hT14 := (hu581 _ (by have z0 := yd5; simp only [List.mem_cons, List.not_mem_nil, or_false, not_or]; omega)).trans hT14
          replace hT15 := (hu581 _ (by have z0 := yd5; simp only [List.mem_cons, List.not_mem_nil, or_false, not_or]; omega)).trans hT15
          replace hT16 := (hu581 _ (by have z0 := yd5; simp only [List.mem_cons, List.not_mem_nil, or_false, not_or]; omega)).trans hT16
          replace hO106 := (hu581 _ (by decide)).trans hO106
          replace hF := q_uc hF hu581 (by simp)
          have hR593 := (show F_NH_decimal_ab_c78 x2 x3 x4 x5 t0_0 t0_1 t1_0 t1_1 t2_0 t3_0 t3_1 t4_0 t5_0 t5_1 t6_0 t7_0 t7_1 t8_0 t9_0 t9_1 t10_0 t11_0 t11_1 t12_0 t12_1 t13_0 t14_0 t14_1 t15_0 t15_1 t16_0 lx71 p582 = (F_NH_decimal_ab x2 x3 x4 x5 t0_0 t0_1 t1_0 t1_1 t2_0 t3_0 t3_1 t4_0 t5_0 t5_1 t6_0 t7_0 t7_1 t8_0 t9_0 t9_1 t10_0 t11_0 t11_1 t12_0 t12_1 t13_0 t14_0 t14_1 t15_0 t15_1 t16_0) from Eq.trans (by rw [e583, F_NH_decimal_ab_J36.eq_1, if_pos c103, if_neg c117, if_neg c547]) hR92)
          have hS594 := (show True ∧ S_NH_decimal_ab_c78 x2 x3 x4 x5 t0_0 t0_1 t1_0 t1_1 t2_0 t3_0 t3_1 t4_0 t5_0 t5_1 t6_0 t7_0 t7_1 t8_0 t9_0 t9_1 t10_0 t11_0 t11_1 t12_0 t12_1 t13_0 t14_0 t14_1 t15_0 t15_1 t16_0 lx71 p582 from (by rw [e583]; have h := hS93; rw [S_NH_decimal_ab_J36.eq_1] at h; rw [if_pos c103] at h; replace h := q_s2 h; replace h := q_s2 h; replace h := q_s2 h; replace h := q_s2 h; rw [if_neg c117] at h; rw [if_neg c547] at h; with_reducible exact h))
          refine q_goxv V (q_runSX (As := [.int a551]) (rest := []) (d := 7) (mc := 1) (ms := 6) C0 V rfl LS_NH_138 (X_NH_canHave l D g q u549  a551 hlt hI  ⟨(by first | with_reducible exact q_fe b565 | (have t1 : 0 ≤ a551.toInt := b565; omega)), (by first | with_reducible exact q_fe b566 | (have t1 : a551.toInt ≤ 1 := b566; omega))⟩ _) rfl hl.1 rfl (Nat.le_of_ble_eq_true rfl) ⟨by decide, by decide⟩ ⟨Nat.le_of_ble_eq_true rfl, Nat.le_of_ble_eq_true rfl⟩ d_1_11_81) (fun qx Ex ce u598 H locs hp599 V hce hcv hcl => ?_) (fun u598 H locs hp599 V => ?_)
          ·
            obtain ⟨cx601, he602, hc603, rfl, hE600⟩ := hp599
            have c604 : ¬ (F_NH_canHave a551) = (0 : Int32) := fun z => hc603 (((hE600) : cx601 = _).trans z)
            exact q_outT hno C0 V (⟨(F_NH_canHave a551), (he602.trans (congrArg qE ((hE600) : cx601 = _))), c604, hI, hF, y553, y554, y556, y557, f558, t3_0, t3_1, t4_0, y561, y562, f563, t9_0, t9_1, t10_0, t14_0, t14_1, t15_0, t15_1, t16_0, hO552, hO555, hA559, hT3, hT4, hO560, hA564, hT9, hT10, hT14, hT15, hT16, (show ((F_NH_canHave a551), y553, y554, y556, y557, f558, t3_0, t3_1, t4_0, y561, y562, f563, t9_0, t9_1, t10_0, t14_0, t14_1, t15_0, t15_1, t16_0) = (F_NH_decimal_ab x2 x3 x4 x5 t0_0 t0_1 t1_0 t1_1 t2_0 t3_0 t3_1 t4_0 t5_0 t5_1 t6_0 t7_0 t7_1 t8_0 t9_0 t9_1 t10_0 t11_0 t11_1 t12_0 t12_1 t13_0 t14_0 t14_1 t15_0 t15_1 t16_0) from Eq.trans (by have c604x := c604; rw [e584] at c604x; rw [e592, e591, e590, e589, e588, e587, e586, e585, e584, F_NH_decimal_ab_c78.eq_1, if_neg c604x]) hR593)⟩) hce hcv hcl (Nat.le_of_ble_eq_true rfl) (Nat.le_of_ble_eq_true rfl)
          ·
            obtain ⟨rfl, hE605⟩ := hp599
            have c604 : (F_NH_canHave a551) = (0 : Int32) := ((hE605) : (0 : Int32) = _).symm
            refine lv_goto (tgt := 136) hx hb d_1_11_84 (by decide) ?_
            refine lv_aload_n hx hb d_1_11_136 rfl (lv_at hl 2 rfl) ?_
            refine lv_iload hx hb d_1_11_137 (lv_at hl 6 rfl) ?_
            have ob607 : True ∧ S_NH_keepDecimal x5 y553 y554 y556 y557 f558 t9_0 t9_1 t10_0 t14_0 t14_1 t15_0 t15_1 t16_0 := (by rw [e589, e588, e587, e586, e585]; have h := hS594; rw [S_NH_decimal_ab_c78.eq_1] at h; have c604x := c604; rw [e584] at c604x; rw [if_pos c604x] at h; with_reducible exact h.2.1)
            refine q_goxv V (q_runVX (As := [.int x5]) (rest := []) (d := 8) (mc := 1) (ms := 6) (ci := 0) C0 V rfl LV_NH_281 (X_NH_keepDecimal l D g q u549  x5 d5 hBd5 yd5 gd5x5 hlt hI y553 y554 hO552 y556 y557 hO555 f558 hA559 t9_0 t9_1 hT9 t10_0 hT10 t14_0 t14_1 hT14 t15_0 t15_1 hT15 t16_0 hT16 ob607 _) rfl rfl hO106 rfl hl.1 rfl (Nat.le_of_ble_eq_true rfl) ⟨by decide, by decide⟩ ⟨Nat.le_of_ble_eq_true rfl, Nat.le_of_ble_eq_true rfl⟩ d_1_11_139) (fun qx Ex ce u608 H locs hp609 V hce hcv hcl => ?_) (fun u608 H locs hp609 V => ?_)
            ·
              obtain ⟨cx624, hZ9⟩ := hp609
              obtain ⟨he625, hZ9⟩ := hZ9
              obtain ⟨hc626, hZ9⟩ := hZ9
              obtain ⟨hI, hZ9⟩ := hZ9
              obtain ⟨hu627, hZ9⟩ := hZ9
              obtain ⟨y611, hZ9⟩ := hZ9
              obtain ⟨y612, hZ9⟩ := hZ9
              obtain ⟨f613, hZ9⟩ := hZ9
              obtain ⟨y616, hZ9⟩ := hZ9
              obtain ⟨y617, hZ9⟩ := hZ9
              obtain ⟨y619, hZ9⟩ := hZ9
              obtain ⟨y620, hZ9⟩ := hZ9
              obtain ⟨f621, hZ9⟩ := hZ9
              obtain ⟨hO610, hZ9⟩ := hZ9
              obtain ⟨hA614, hZ9⟩ := hZ9
              obtain ⟨hO615, hZ9⟩ := hZ9
              obtain ⟨hO618, hZ9⟩ := hZ9
              obtain ⟨hA622, hE623⟩ := hZ9
              replace hO610 : u608[20]? = (some (q 20, .inr (2, [.ref (q 21), .int y611, .int y612])) : Option (Nat × va_E)) := hO610
              replace hA614 : u608[21]? = (some (q 21, .inl (g 0, (220 : Int32).toNatClampNeg, .inl f613)) : Option (Nat × va_E)) := hA614
              replace hO615 : u608[d5]? = (some (q d5, .inr (3, [.ref (q (d5 + 1)), .int y616, .int y617])) : Option (Nat × va_E)) := hO615
              replace hO618 : u608[d5 + 1]? = (some (q (d5 + 1), .inr (2, [.ref (q (d5 + 2)), .int y619, .int y620])) : Option (Nat × va_E)) := hO618
              replace hA622 : u608[d5 + 2]? = (some (q (d5 + 2), .inl (g 0, (108 : Int32).toNatClampNeg, .inl f621)) : Option (Nat × va_E)) := hA622
              obtain ⟨p628, e629⟩ : ∃ z, z = (F_NH_keepDecimal x5 y553 y554 y556 y557 f558 t9_0 t9_1 t10_0 t14_0 t14_1 t15_0 t15_1 t16_0) := ⟨_, rfl⟩
              have c630 : ¬ p628.1 = (0 : Int32) := fun z => hc626 (((congrArg (fun z => z.1) (hE623.trans e629.symm)) : cx624 = _).trans z)
              have e631 : y611 = p628.2.1 := congrArg (fun z => z.2.1) (hE623.trans e629.symm)
              have e632 : y612 = p628.2.2.1 := congrArg (fun z => z.2.2.1) (hE623.trans e629.symm)
              have e633 : f613 = p628.2.2.2.1 := congrArg (fun z => z.2.2.2.1) (hE623.trans e629.symm)
              have e634 : y616 = p628.2.2.2.2.1 := congrArg (fun z => z.2.2.2.2.1) (hE623.trans e629.symm)
              have e635 : y617 = p628.2.2.2.2.2.1 := congrArg (fun z => z.2.2.2.2.2.1) (hE623.trans e629.symm)
              have e636 : y619 = p628.2.2.2.2.2.2.1 := congrArg (fun z => z.2.2.2.2.2.2.1) (hE623.trans e629.symm)
              have e637 : y620 = p628.2.2.2.2.2.2.2.1 := congrArg (fun z => z.2.2.2.2.2.2.2.1) (hE623.trans e629.symm)
              have e638 : f621 = p628.2.2.2.2.2.2.2.2 := congrArg (fun z => z.2.2.2.2.2.2.2.2) (hE623.trans e629.symm)
              replace hO552 := (hu627 _ (by have z0 := yd5; simp only [List.mem_cons, List.not_mem_nil, or_false, not_or]; omega)).trans hO552
              replace hO555 := (hu627 _ (by have z0 := yd5; simp only [List.mem_cons, List.not_mem_nil, or_false, not_or]; omega)).trans hO555
              replace hA559 := (hu627 _ (by have z0 := yd5; simp only [List.mem_cons, List.not_mem_nil, or_false, not_or]; omega)).trans hA559
              replace hT3 := (hu627 _ (by have z0 := yd5; simp only [List.mem_cons, List.not_mem_nil, or_false, not_or]; omega)).trans hT3
              replace hT4 := (hu627 _ (by have z0 := yd5; simp only [List.mem_cons, List.not_mem_nil, or_false, not_or]; omega)).trans hT4
              replace hO560 := (hu627 _ (by have z0 := yd5; simp only [List.mem_cons, List.not_mem_nil, or_false, not_or]; omega)).trans hO560
              replace hA564 := (hu627 _ (by have z0 := yd5; simp only [List.mem_cons, List.not_mem_nil, or_false, not_or]; omega)).trans hA564
              replace hF := q_uc hF hu627 (by simp)
              have hR639 := (show F_NH_decimal_ab_c139_9 x2 x3 x4 x5 t0_0 t0_1 t1_0 t1_1 t2_0 t3_0 t3_1 t4_0 t5_0 t5_1 t6_0 t7_0 t7_1 t8_0 t9_0 t9_1 t10_0 t11_0 t11_1 t12_0 t12_1 t13_0 t14_0 t14_1 t15_0 t15_1 t16_0 lx71 p582 y553 y554 y556 y557 f558 y561 y562 f563 p628 = (F_NH_decimal_ab x2 x3 x4 x5 t0_0 t0_1 t1_0 t1_1 t2_0 t3_0 t3_1 t4_0 t5_0 t5_1 t6_0 t7_0 t7_1 t8_0 t9_0 t9_1 t10_0 t11_0 t11_1 t12_0 t12_1 t13_0 t14_0 t14_1 t15_0 t15_1 t16_0) from Eq.trans (by have c604x := c604; rw [e584] at c604x; rw [e629, e592, e591, e590, e589, e588, e587, e586, e585, F_NH_decimal_ab_c78.eq_1, if_pos c604x]) hR593)
              have hS640 := (show True ∧ S_NH_decimal_ab_c139_9 x2 x3 x4 x5 t0_0 t0_1 t1_0 t1_1 t2_0 t3_0 t3_1 t4_0 t5_0 t5_1 t6_0 t7_0 t7_1 t8_0 t9_0 t9_1 t10_0 t11_0 t11_1 t12_0 t12_1 t13_0 t14_0 t14_1 t15_0 t15_1 t16_0 lx71 p582 y553 y554 y556 y557 f558 y561 y562 f563 p628 from (by rw [e629, e592, e591, e590, e589, e588, e587, e586, e585]; have h := hS594; rw [S_NH_decimal_ab_c78.eq_1] at h; have c604x := c604; rw [e584] at c604x; rw [if_pos c604x] at h; replace h := q_s2 h; with_reducible exact h))
              exact q_outT hno C0 V (⟨p628.1, (he625.trans (congrArg qE ((congrArg (fun z => z.1) (hE623.trans e629.symm)) : cx624 = _))), c630, hI, hF, y553, y554, y556, y557, f558, t3_0, t3_1, t4_0, y561, y562, f563, y611, y612, f613, y616, y617, y619, y620, f621, hO552, hO555, hA559, hT3, hT4, hO560, hA564, hO610, hA614, hO615, hO618, hA622, (show (p628.1, y553, y554, y556, y557, f558, t3_0, t3_1, t4_0, y561, y562, f563, y611, y612, f613, y616, y617, y619, y620, f621) = (F_NH_decimal_ab x2 x3 x4 x5 t0_0 t0_1 t1_0 t1_1 t2_0 t3_0 t3_1 t4_0 t5_0 t5_1 t6_0 t7_0 t7_1 t8_0 t9_0 t9_1 t10_0 t11_0 t11_1 t12_0 t12_1 t13_0 t14_0 t14_1 t15_0 t15_1 t16_0) from Eq.trans (by rw [e638, e637, e636, e635, e634, e633, e632, e631, F_NH_decimal_ab_c139_9.eq_1, if_neg c630]) hR639)⟩) hce hcv hcl (Nat.le_of_ble_eq_true rfl) (Nat.le_of_ble_eq_true rfl)
            ·
              obtain ⟨hI, hZ9⟩ := hp609
              obtain ⟨hu682, hZ9⟩ := hZ9
              obtain ⟨y645, hZ9⟩ := hZ9
              obtain ⟨y646, hZ9⟩ := hZ9
              obtain ⟨f647, hZ9⟩ := hZ9
              obtain ⟨y650, hZ9⟩ := hZ9
              obtain ⟨y651, hZ9⟩ := hZ9
              obtain ⟨y653, hZ9⟩ := hZ9
              obtain ⟨y654, hZ9⟩ := hZ9
              obtain ⟨f655, hZ9⟩ := hZ9
              obtain ⟨hO644, hZ9⟩ := hZ9
              obtain ⟨hA648, hZ9⟩ := hZ9
              obtain ⟨hO649, hZ9⟩ := hZ9
              obtain ⟨hO652, hZ9⟩ := hZ9
              obtain ⟨hA656, hZ9⟩ := hZ9
              obtain ⟨b657, hZ9⟩ := hZ9
              obtain ⟨b658, hZ9⟩ := hZ9
              obtain ⟨b659, hZ9⟩ := hZ9
              obtain ⟨b660, hZ9⟩ := hZ9
              obtain ⟨b661, hZ9⟩ := hZ9
              obtain ⟨b662, hZ9⟩ := hZ9
              obtain ⟨b663, hZ9⟩ := hZ9
              obtain ⟨b664, hZ9⟩ := hZ9
              obtain ⟨b665, hZ9⟩ := hZ9
              obtain ⟨b666, hZ9⟩ := hZ9
              obtain ⟨b667, hZ9⟩ := hZ9
              obtain ⟨b668, hZ9⟩ := hZ9
              obtain ⟨b669, hZ9⟩ := hZ9
              obtain ⟨b670, hZ9⟩ := hZ9
              obtain ⟨b671, hZ9⟩ := hZ9
              obtain ⟨b672, hZ9⟩ := hZ9
              obtain ⟨b673, hZ9⟩ := hZ9
              obtain ⟨b674, hZ9⟩ := hZ9
              obtain ⟨b675, hZ9⟩ := hZ9
              obtain ⟨b676, hZ9⟩ := hZ9
              obtain ⟨b677, hZ9⟩ := hZ9
              obtain ⟨b678, hZ9⟩ := hZ9
              obtain ⟨b679, hZ9⟩ := hZ9
              obtain ⟨b680, hE681⟩ := hZ9
              replace hO644 : u608[20]? = (some (q 20, .inr (2, [.ref (q 21), .int y645, .int y646])) : Option (Nat × va_E)) := hO644
              replace hA648 : u608[21]? = (some (q 21, .inl (g 0, (220 : Int32).toNatClampNeg, .inl f647)) : Option (Nat × va_E)) := hA648
              replace hO649 : u608[d5]? = (some (q d5, .inr (3, [.ref (q (d5 + 1)), .int y650, .int y651])) : Option (Nat × va_E)) := hO649
              replace hO652 : u608[d5 + 1]? = (some (q (d5 + 1), .inr (2, [.ref (q (d5 + 2)), .int y653, .int y654])) : Option (Nat × va_E)) := hO652
              replace hA656 : u608[d5 + 2]? = (some (q (d5 + 2), .inl (g 0, (108 : Int32).toNatClampNeg, .inl f655)) : Option (Nat × va_E)) := hA656
              obtain ⟨p628, e629⟩ : ∃ z, z = (F_NH_keepDecimal x5 y553 y554 y556 y557 f558 t9_0 t9_1 t10_0 t14_0 t14_1 t15_0 t15_1 t16_0) := ⟨_, rfl⟩
              have c630 : p628.1 = (0 : Int32) := ((congrArg (fun z => z.1) (hE681.trans e629.symm)) : (0 : Int32) = _).symm
              have e684 : y645 = p628.2.1 := congrArg (fun z => z.2.1) (hE681.trans e629.symm)
              have e685 : y646 = p628.2.2.1 := congrArg (fun z => z.2.2.1) (hE681.trans e629.symm)
              have e686 : f647 = p628.2.2.2.1 := congrArg (fun z => z.2.2.2.1) (hE681.trans e629.symm)
              have e687 : y650 = p628.2.2.2.2.1 := congrArg (fun z => z.2.2.2.2.1) (hE681.trans e629.symm)
              have e688 : y651 = p628.2.2.2.2.2.1 := congrArg (fun z => z.2.2.2.2.2.1) (hE681.trans e629.symm)
              have e689 : y653 = p628.2.2.2.2.2.2.1 := congrArg (fun z => z.2.2.2.2.2.2.1) (hE681.trans e629.symm)
              have e690 : y654 = p628.2.2.2.2.2.2.2.1 := congrArg (fun z => z.2.2.2.2.2.2.2.1) (hE681.trans e629.symm)
              have e691 : f655 = p628.2.2.2.2.2.2.2.2 := congrArg (fun z => z.2.2.2.2.2.2.2.2) (hE681.trans e629.symm)
              replace b657 : q_F (0 ≤ y645.toInt) := b657
              replace b658 : q_F (y645.toInt ≤ 220) := b658
              replace b659 : q_F (0 ≤ y646.toInt) := b659
              replace b660 : q_F (y646.toInt ≤ 1) := b660
              replace b661 : q_F (0 ≤ y650.toInt + 10000) := b661
              replace b662 : q_F (y650.toInt ≤ 10000) := b662
              replace b663 : q_F (1 ≤ y651.toInt) := b663
              replace b664 : q_F (y651.toInt ≤ 1000) := b664
              replace b665 : q_F (0 ≤ y653.toInt) := b665
              replace b666 : q_F (y653.toInt ≤ 108) := b666
              replace b667 : q_F (0 ≤ y654.toInt) := b667
              replace b668 : q_F (y654.toInt ≤ 1) := b668
              replace b669 : q_F (x5.toInt ≤ y645.toInt + 9) := b669
              replace b670 : q_F (y645.toInt ≤ x5.toInt + 220) := b670
              replace b671 : q_F (x5.toInt ≤ y646.toInt + 9) := b671
              replace b672 : q_F (y646.toInt ≤ x5.toInt + 1) := b672
              replace b673 : q_F (x5.toInt ≤ y650.toInt + 10009) := b673
              replace b674 : q_F (y650.toInt ≤ x5.toInt + 10000) := b674
              replace b675 : q_F (x5.toInt ≤ y651.toInt + 8) := b675
              replace b676 : q_F (y651.toInt ≤ x5.toInt + 1000) := b676
              replace b677 : q_F (x5.toInt ≤ y653.toInt + 9) := b677
              replace b678 : q_F (y653.toInt ≤ x5.toInt + 108) := b678
              replace b679 : q_F (x5.toInt ≤ y654.toInt + 9) := b679
              replace b680 : q_F (y654.toInt ≤ x5.toInt + 1) := b680
              replace hO552 := (hu682 _ (by have z0 := yd5; simp only [List.mem_cons, List.not_mem_nil, or_false, not_or]; omega)).trans hO552
              replace hO555 := (hu682 _ (by have z0 := yd5; simp only [List.mem_cons, List.not_mem_nil, or_false, not_or]; omega)).trans hO555
              replace hA559 := (hu682 _ (by have z0 := yd5; simp only [List.mem_cons, List.not_mem_nil, or_false, not_or]; omega)).trans hA559
              replace hT3 := (hu682 _ (by have z0 := yd5; simp only [List.mem_cons, List.not_mem_nil, or_false, not_or]; omega)).trans hT3
              replace hT4 := (hu682 _ (by have z0 := yd5; simp only [List.mem_cons, List.not_mem_nil, or_false, not_or]; omega)).trans hT4
              replace hO560 := (hu682 _ (by have z0 := yd5; simp only [List.mem_cons, List.not_mem_nil, or_false, not_or]; omega)).trans hO560
              replace hA564 := (hu682 _ (by have z0 := yd5; simp only [List.mem_cons, List.not_mem_nil, or_false, not_or]; omega)).trans hA564
              replace hF := q_uc hF hu682 (by simp)
              have hR639 := (show F_NH_decimal_ab_c139_9 x2 x3 x4 x5 t0_0 t0_1 t1_0 t1_1 t2_0 t3_0 t3_1 t4_0 t5_0 t5_1 t6_0 t7_0 t7_1 t8_0 t9_0 t9_1 t10_0 t11_0 t11_1 t12_0 t12_1 t13_0 t14_0 t14_1 t15_0 t15_1 t16_0 lx71 p582 y553 y554 y556 y557 f558 y561 y562 f563 p628 = (F_NH_decimal_ab x2 x3 x4 x5 t0_0 t0_1 t1_0 t1_1 t2_0 t3_0 t3_1 t4_0 t5_0 t5_1 t6_0 t7_0 t7_1 t8_0 t9_0 t9_1 t10_0 t11_0 t11_1 t12_0 t12_1 t13_0 t14_0 t14_1 t15_0 t15_1 t16_0) from Eq.trans (by have c604x := c604; rw [e584] at c604x; rw [e629, e592, e591, e590, e589, e588, e587, e586, e585, F_NH_decimal_ab_c78.eq_1, if_pos c604x]) hR593)
              have hS640 := (show True ∧ S_NH_decimal_ab_c139_9 x2 x3 x4 x5 t0_0 t0_1 t1_0 t1_1 t2_0 t3_0 t3_1 t4_0 t5_0 t5_1 t6_0 t7_0 t7_1 t8_0 t9_0 t9_1 t10_0 t11_0 t11_1 t12_0 t12_1 t13_0 t14_0 t14_1 t15_0 t15_1 t16_0 lx71 p582 y553 y554 y556 y557 f558 y561 y562 f563 p628 from (by rw [e629, e592, e591, e590, e589, e588, e587, e586, e585]; have h := hS594; rw [S_NH_decimal_ab_c78.eq_1] at h; have c604x := c604; rw [e584] at c604x; rw [if_pos c604x] at h; replace h := q_s2 h; with_reducible exact h))
              exact q_retX (q_retv C0 V (⟨hI, hF, y553, y554, y556, y557, f558, t3_0, t3_1, t4_0, y561, y562, f563, y645, y646, f647, y650, y651, y653, y654, f655, hO552, hO555, hA559, hT3, hT4, hO560, hA564, hO644, hA648, hO649, hO652, hA656, (show 0 ≤ y553.toInt + 20000 from (by have t1 : -10000 ≤ t11_0.toInt ∧ t11_0.toInt ≤ 10000 := btt11_0; have t2 : t11_0.toInt ≤ y553.toInt := b576; omega)), (show y553.toInt ≤ 20000 from (by first | with_reducible exact q_fe b567 | (have t1 : y553.toInt ≤ 10000 := b567; omega))), (show 0 ≤ y554.toInt from (by have t1 : 0 ≤ t0_1.toInt ∧ t0_1.toInt ≤ 1 := btt0_1; have t2 : t0_1.toInt ≤ y554.toInt := b578; omega)), (show y554.toInt ≤ 1 from (by have t1 : 0 ≤ t0_1.toInt ∧ t0_1.toInt ≤ 1 := btt0_1; have t2 : y554.toInt ≤ t0_1.toInt := b579; omega)), (show 0 ≤ y556.toInt from (by first | with_reducible exact q_fe b568 | (have t1 : 0 ≤ y556.toInt := b568; omega))), (show y556.toInt ≤ 220 from (by first | with_reducible exact q_fe b569 | (have t1 : y556.toInt ≤ 220 := b569; omega))), (show 0 ≤ y557.toInt from (by first | with_reducible exact q_fe b570 | (have t1 : 0 ≤ y557.toInt := b570; omega))), (show y557.toInt ≤ 1 from (by first | with_reducible exact q_fe b571 | (have t1 : y557.toInt ≤ 1 := b571; omega))), (show 0 ≤ t3_0.toInt from (by first | with_reducible exact (q_fe btt3_0).2 | with_reducible exact (q_fe btt3_0).1 | (have t1 : 0 ≤ t3_0.toInt ∧ t3_0.toInt ≤ 220 := btt3_0; omega))), (show t3_0.toInt ≤ 220 from (by first | with_reducible exact (q_fe btt3_0).2 | with_reducible exact (q_fe btt3_0).1 | (have t1 : 0 ≤ t3_0.toInt ∧ t3_0.toInt ≤ 220 := btt3_0; omega))), (show 0 ≤ t3_1.toInt from (by first | with_reducible exact (q_fe btt3_1).2 | with_reducible exact (q_fe btt3_1).1 | (have t1 : 0 ≤ t3_1.toInt ∧ t3_1.toInt ≤ 1 := btt3_1; omega))), (show t3_1.toInt ≤ 1 from (by first | with_reducible exact (q_fe btt3_1).2 | with_reducible exact (q_fe btt3_1).1 | (have t1 : 0 ≤ t3_1.toInt ∧ t3_1.toInt ≤ 1 := btt3_1; omega))), (show 0 ≤ y561.toInt from (by first | with_reducible exact q_fe b572 | (have t1 : 0 ≤ y561.toInt := b572; omega))), (show y561.toInt ≤ 220 from (by first | with_reducible exact q_fe b573 | (have t1 : y561.toInt ≤ 220 := b573; omega))), (show 0 ≤ y562.toInt from (by first | with_reducible exact q_fe b574 | (have t1 : 0 ≤ y562.toInt := b574; omega))), (show y562.toInt ≤ 2 from (by first | with_reducible exact q_fe b575 | (have t1 : y562.toInt ≤ 1 := b575; omega))), (show 0 ≤ y645.toInt from (by first | with_reducible exact q_fe b657 | (have t1 : 0 ≤ y645.toInt := b657; omega))), (show y645.toInt ≤ 220 from (by first | with_reducible exact q_fe b658 | (have t1 : y645.toInt ≤ 220 := b658; omega))), (show 0 ≤ y646.toInt from (by first | with_reducible exact q_fe b659 | (have t1 : 0 ≤ y646.toInt := b659; omega))), (show y646.toInt ≤ 1 from (by first | with_reducible exact q_fe b660 | (have t1 : y646.toInt ≤ 1 := b660; omega))), (show 0 ≤ y650.toInt + 10000 from (by first | with_reducible exact q_fe b661 | (have t1 : 0 ≤ y650.toInt + 10000 := b661; omega))), (show y650.toInt ≤ 10000 from (by first | with_reducible exact q_fe b662 | (have t1 : y650.toInt ≤ 10000 := b662; omega))), (show 1 ≤ y651.toInt from (by first | with_reducible exact q_fe b663 | (have t1 : 1 ≤ y651.toInt := b663; omega))), (show y651.toInt ≤ 1000 from (by first | with_reducible exact q_fe b664 | (have t1 : y651.toInt ≤ 1000 := b664; omega))), (show 0 ≤ y653.toInt from (by first | with_reducible exact q_fe b665 | (have t1 : 0 ≤ y653.toInt := b665; omega))), (show y653.toInt ≤ 108 from (by first | with_reducible exact q_fe b666 | (have t1 : y653.toInt ≤ 108 := b666; omega))), (show 0 ≤ y654.toInt from (by first | with_reducible exact q_fe b667 | (have t1 : 0 ≤ y654.toInt := b667; omega))), (show y654.toInt ≤ 1 from (by first | with_reducible exact q_fe b668 | (have t1 : y654.toInt ≤ 1 := b668; omega))), (show x3.toInt ≤ y553.toInt + 20009 from (by have t1 : -10000 ≤ t11_0.toInt ∧ t11_0.toInt ≤ 10000 := btt11_0; have t2 : x3.toInt ≤ 9 := ob109; have t3 : t11_0.toInt ≤ y553.toInt := b576; omega)), (show y553.toInt ≤ x3.toInt + 20000 from (by have t1 : 0 ≤ x3.toInt := ob108; have t2 : y553.toInt ≤ 10000 := b567; omega)), (show x4.toInt ≤ y553.toInt + 20009 from (by have t1 : -10000 ≤ t11_0.toInt ∧ t11_0.toInt ≤ 10000 := btt11_0; have t2 : x4.toInt ≤ 9 := ob114; have t3 : t11_0.toInt ≤ y553.toInt := b576; omega)), (show y553.toInt ≤ x4.toInt + 20000 from (by have t1 : 0 ≤ x4.toInt := ob113; have t2 : y553.toInt ≤ 10000 := b567; omega)), (show t11_0.toInt ≤ y553.toInt + 10000 from (by first | with_reducible exact q_fe b576 | (have t1 : t11_0.toInt ≤ y553.toInt := b576; omega))), (show y553.toInt ≤ t11_0.toInt + 20000 from (by have t1 : -10000 ≤ t11_0.toInt ∧ t11_0.toInt ≤ 10000 := btt11_0; have t2 : y553.toInt ≤ 10000 := b567; omega)), (show x3.toInt ≤ y554.toInt + 9 from (by have t1 : 0 ≤ t0_1.toInt ∧ t0_1.toInt ≤ 1 := btt0_1; have t2 : x3.toInt ≤ 9 := ob109; have t3 : t0_1.toInt ≤ y554.toInt := b578; omega)), (show y554.toInt ≤ x3.toInt + 1 from (by have t1 : 0 ≤ t0_1.toInt ∧ t0_1.toInt ≤ 1 := btt0_1; have t2 : 0 ≤ x3.toInt := ob108; have t3 : y554.toInt ≤ t0_1.toInt := b579; omega)), (show x4.toInt ≤ y554.toInt + 9 from (by have t1 : 0 ≤ t0_1.toInt ∧ t0_1.toInt ≤ 1 := btt0_1; have t2 : x4.toInt ≤ 9 := ob114; have t3 : t0_1.toInt ≤ y554.toInt := b578; omega)), (show y554.toInt ≤ x4.toInt + 1 from (by have t1 : 0 ≤ t0_1.toInt ∧ t0_1.toInt ≤ 1 := btt0_1; have t2 : 0 ≤ x4.toInt := ob113; have t3 : y554.toInt ≤ t0_1.toInt := b579; omega)), (show t0_1.toInt ≤ y554.toInt from (by first | with_reducible exact q_fe b578 | (have t1 : t0_1.toInt ≤ y554.toInt := b578; omega))), (show y554.toInt ≤ t0_1.toInt from (by first | with_reducible exact q_fe b579 | (have t1 : y554.toInt ≤ t0_1.toInt := b579; omega))), (show x3.toInt ≤ y556.toInt + 9 from (by have t1 : x3.toInt ≤ 9 := ob109; have t2 : 0 ≤ y556.toInt := b568; omega)), (show y556.toInt ≤ x3.toInt + 220 from (by have t1 : 0 ≤ x3.toInt := ob108; have t2 : y556.toInt ≤ 220 := b569; omega)), (show x4.toInt ≤ y556.toInt + 9 from (by have t1 : x4.toInt ≤ 9 := ob114; have t2 : 0 ≤ y556.toInt := b568; omega)), (show y556.toInt ≤ x4.toInt + 220 from (by have t1 : 0 ≤ x4.toInt := ob113; have t2 : y556.toInt ≤ 220 := b569; omega)), (show x3.toInt ≤ y557.toInt + 9 from (by have t1 : x3.toInt ≤ 9 := ob109; have t2 : 0 ≤ y557.toInt := b570; omega)), (show y557.toInt ≤ x3.toInt + 1 from (by have t1 : 0 ≤ x3.toInt := ob108; have t2 : y557.toInt ≤ 1 := b571; omega)), (show x4.toInt ≤ y557.toInt + 9 from (by have t1 : x4.toInt ≤ 9 := ob114; have t2 : 0 ≤ y557.toInt := b570; omega)), (show y557.toInt ≤ x4.toInt + 1 from (by have t1 : 0 ≤ x4.toInt := ob113; have t2 : y557.toInt ≤ 1 := b571; omega)), (show x3.toInt ≤ t3_0.toInt + 9 from (by have t1 : 0 ≤ t3_0.toInt ∧ t3_0.toInt ≤ 220 := btt3_0; have t2 : x3.toInt ≤ 9 := ob109; omega)), (show t3_0.toInt ≤ x3.toInt + 220 from (by have t1 : 0 ≤ t3_0.toInt ∧ t3_0.toInt ≤ 220 := btt3_0; have t2 : 0 ≤ x3.toInt := ob108; omega)), (show x4.toInt ≤ t3_0.toInt + 9 from (by have t1 : 0 ≤ t3_0.toInt ∧ t3_0.toInt ≤ 220 := btt3_0; have t2 : x4.toInt ≤ 9 := ob114; omega)), (show t3_0.toInt ≤ x4.toInt + 220 from (by have t1 : 0 ≤ t3_0.toInt ∧ t3_0.toInt ≤ 220 := btt3_0; have t2 : 0 ≤ x4.toInt := ob113; omega)), (show x3.toInt ≤ t3_1.toInt + 9 from (by have t1 : 0 ≤ t3_1.toInt ∧ t3_1.toInt ≤ 1 := btt3_1; have t2 : x3.toInt ≤ 9 := ob109; omega)), (show t3_1.toInt ≤ x3.toInt + 1 from (by have t1 : 0 ≤ t3_1.toInt ∧ t3_1.toInt ≤ 1 := btt3_1; have t2 : 0 ≤ x3.toInt := ob108; omega)), (show x4.toInt ≤ t3_1.toInt + 9 from (by have t1 : 0 ≤ t3_1.toInt ∧ t3_1.toInt ≤ 1 := btt3_1; have t2 : x4.toInt ≤ 9 := ob114; omega)), (show t3_1.toInt ≤ x4.toInt + 1 from (by have t1 : 0 ≤ t3_1.toInt ∧ t3_1.toInt ≤ 1 := btt3_1; have t2 : 0 ≤ x4.toInt := ob113; omega)), (show t3_1.toInt ≤ t3_1.toInt from (by omega)), (show x3.toInt ≤ y561.toInt + 9 from (by have t1 : x3.toInt ≤ 9 := ob109; have t2 : 0 ≤ y561.toInt := b572; omega)), (show y561.toInt ≤ x3.toInt + 220 from (by have t1 : 0 ≤ x3.toInt := ob108; have t2 : y561.toInt ≤ 220 := b573; omega)), (show x4.toInt ≤ y561.toInt + 9 from (by have t1 : x4.toInt ≤ 9 := ob114; have t2 : 0 ≤ y561.toInt := b572; omega)), (show y561.toInt ≤ x4.toInt + 220 from (by have t1 : 0 ≤ x4.toInt := ob113; have t2 : y561.toInt ≤ 220 := b573; omega)), (show x3.toInt ≤ y562.toInt + 9 from (by have t1 : x3.toInt ≤ 9 := ob109; have t2 : 0 ≤ y562.toInt := b574; omega)), (show x4.toInt ≤ y562.toInt + 9 from (by have t1 : x4.toInt ≤ 9 := ob114; have t2 : 0 ≤ y562.toInt := b574; omega)), (show y562.toInt ≤ t12_1.toInt + 1 from (by have t1 : 0 ≤ t12_1.toInt ∧ t12_1.toInt ≤ 1 := btt12_1; have t2 : y562.toInt ≤ 1 := b575; omega)), (show x3.toInt ≤ y645.toInt + 9 from (by have t1 : x3.toInt ≤ 9 := ob109; have t2 : 0 ≤ y645.toInt := b657; omega)), (show y645.toInt ≤ x3.toInt + 220 from (by have t1 : 0 ≤ x3.toInt := ob108; have t2 : y645.toInt ≤ 220 := b658; omega)), (show x4.toInt ≤ y645.toInt + 9 from (by have t1 : x4.toInt ≤ 9 := ob114; have t2 : 0 ≤ y645.toInt := b657; omega)), (show y645.toInt ≤ x4.toInt + 220 from (by have t1 : 0 ≤ x4.toInt := ob113; have t2 : y645.toInt ≤ 220 := b658; omega)), (show x5.toInt ≤ y645.toInt + 9 from (by first | with_reducible exact q_fe b669 | (have t1 : x5.toInt ≤ y645.toInt + 9 := b669; omega))), (show y645.toInt ≤ x5.toInt + 220 from (by first | with_reducible exact q_fe b670 | (have t1 : y645.toInt ≤ x5.toInt + 220 := b670; omega))), (show x3.toInt ≤ y646.toInt + 9 from (by have t1 : x3.toInt ≤ 9 := ob109; have t2 : 0 ≤ y646.toInt := b659; omega)), (show y646.toInt ≤ x3.toInt + 1 from (by have t1 : 0 ≤ x3.toInt := ob108; have t2 : y646.toInt ≤ 1 := b660; omega)), (show x4.toInt ≤ y646.toInt + 9 from (by have t1 : x4.toInt ≤ 9 := ob114; have t2 : 0 ≤ y646.toInt := b659; omega)), (show y646.toInt ≤ x4.toInt + 1 from (by have t1 : 0 ≤ x4.toInt := ob113; have t2 : y646.toInt ≤ 1 := b660; omega)), (show x5.toInt ≤ y646.toInt + 9 from (by first | with_reducible exact q_fe b671 | (have t1 : x5.toInt ≤ y646.toInt + 9 := b671; omega))), (show y646.toInt ≤ x5.toInt + 1 from (by first | with_reducible exact q_fe b672 | (have t1 : y646.toInt ≤ x5.toInt + 1 := b672; omega))), (show x3.toInt ≤ y650.toInt + 10009 from (by have t1 : x3.toInt ≤ 9 := ob109; have t2 : 0 ≤ y650.toInt + 10000 := b661; omega)), (show y650.toInt ≤ x3.toInt + 10000 from (by have t1 : 0 ≤ x3.toInt := ob108; have t2 : y650.toInt ≤ 10000 := b662; omega)), (show x4.toInt ≤ y650.toInt + 10009 from (by have t1 : x4.toInt ≤ 9 := ob114; have t2 : 0 ≤ y650.toInt + 10000 := b661; omega)), (show y650.toInt ≤ x4.toInt + 10000 from (by have t1 : 0 ≤ x4.toInt := ob113; have t2 : y650.toInt ≤ 10000 := b662; omega)), (show x5.toInt ≤ y650.toInt + 10009 from (by first | with_reducible exact q_fe b673 | (have t1 : x5.toInt ≤ y650.toInt + 10009 := b673; omega))), (show y650.toInt ≤ x5.toInt + 10000 from (by first | with_reducible exact q_fe b674 | (have t1 : y650.toInt ≤ x5.toInt + 10000 := b674; omega))), (show x3.toInt ≤ y651.toInt + 8 from (by have t1 : x3.toInt ≤ 9 := ob109; have t2 : 1 ≤ y651.toInt := b663; omega)), (show y651.toInt ≤ x3.toInt + 1000 from (by have t1 : 0 ≤ x3.toInt := ob108; have t2 : y651.toInt ≤ 1000 := b664; omega)), (show x4.toInt ≤ y651.toInt + 8 from (by have t1 : x4.toInt ≤ 9 := ob114; have t2 : 1 ≤ y651.toInt := b663; omega)), (show y651.toInt ≤ x4.toInt + 1000 from (by have t1 : 0 ≤ x4.toInt := ob113; have t2 : y651.toInt ≤ 1000 := b664; omega)), (show x5.toInt ≤ y651.toInt + 8 from (by first | with_reducible exact q_fe b675 | (have t1 : x5.toInt ≤ y651.toInt + 8 := b675; omega))), (show y651.toInt ≤ x5.toInt + 1000 from (by first | with_reducible exact q_fe b676 | (have t1 : y651.toInt ≤ x5.toInt + 1000 := b676; omega))), (show x3.toInt ≤ y653.toInt + 9 from (by have t1 : x3.toInt ≤ 9 := ob109; have t2 : 0 ≤ y653.toInt := b665; omega)), (show y653.toInt ≤ x3.toInt + 108 from (by have t1 : 0 ≤ x3.toInt := ob108; have t2 : y653.toInt ≤ 108 := b666; omega)), (show x4.toInt ≤ y653.toInt + 9 from (by have t1 : x4.toInt ≤ 9 := ob114; have t2 : 0 ≤ y653.toInt := b665; omega)), (show y653.toInt ≤ x4.toInt + 108 from (by have t1 : 0 ≤ x4.toInt := ob113; have t2 : y653.toInt ≤ 108 := b666; omega)), (show x5.toInt ≤ y653.toInt + 9 from (by first | with_reducible exact q_fe b677 | (have t1 : x5.toInt ≤ y653.toInt + 9 := b677; omega))), (show y653.toInt ≤ x5.toInt + 108 from (by first | with_reducible exact q_fe b678 | (have t1 : y653.toInt ≤ x5.toInt + 108 := b678; omega))), (show x3.toInt ≤ y654.toInt + 9 from (by have t1 : x3.toInt ≤ 9 := ob109; have t2 : 0 ≤ y654.toInt := b667; omega)), (show y654.toInt ≤ x3.toInt + 1 from (by have t1 : 0 ≤ x3.toInt := ob108; have t2 : y654.toInt ≤ 1 := b668; omega)), (show x4.toInt ≤ y654.toInt + 9 from (by have t1 : x4.toInt ≤ 9 := ob114; have t2 : 0 ≤ y654.toInt := b667; omega)), (show y654.toInt ≤ x4.toInt + 1 from (by have t1 : 0 ≤ x4.toInt := ob113; have t2 : y654.toInt ≤ 1 := b668; omega)), (show x5.toInt ≤ y654.toInt + 9 from (by first | with_reducible exact q_fe b679 | (have t1 : x5.toInt ≤ y654.toInt + 9 := b679; omega))), (show y654.toInt ≤ x5.toInt + 1 from (by first | with_reducible exact q_fe b680 | (have t1 : y654.toInt ≤ x5.toInt + 1 := b680; omega))), (show y562.toInt ≤ y553.toInt + 20001 from (by have t1 : -10000 ≤ t11_0.toInt ∧ t11_0.toInt ≤ 10000 := btt11_0; have t2 : y562.toInt ≤ 1 := b575; have t3 : t11_0.toInt ≤ y553.toInt := b576; omega)), (show y562.toInt ≤ y557.toInt + 1 from (by have t1 : 0 ≤ y557.toInt := b570; have t2 : y562.toInt ≤ 1 := b575; omega)), (show ((0 : Int32), y553, y554, y556, y557, f558, t3_0, t3_1, t4_0, y561, y562, f563, y645, y646, f647, y650, y651, y653, y654, f655) = (F_NH_decimal_ab x2 x3 x4 x5 t0_0 t0_1 t1_0 t1_1 t2_0 t3_0 t3_1 t4_0 t5_0 t5_1 t6_0 t7_0 t7_1 t8_0 t9_0 t9_1 t10_0 t11_0 t11_1 t12_0 t12_1 t13_0 t14_0 t14_1 t15_0 t15_1 t16_0) from Eq.trans (by rw [e691, e690, e689, e688, e687, e686, e685, e684, F_NH_decimal_ab_c139_9.eq_1, if_pos c630]) hR639)⟩) d_1_11_142)
        ·
          refine lv_iconst (v := 1) hx hb d_1_11_73 (by decide) ?_
          refine lv_goto (tgt := 78) hx hb d_1_11_74 (by decide) ?_
          refine q_goi V (q_runV (As := [.ref (q d3), .ref (q d3), .int 1]) (rest := []) (d := 4) (mc := 0) (ms := 0) (ci := 5) C0 V rfl LV_NH_269 (X_DW_sum l D g q ws d3 108 hBd3 (Or.inr yd3) d3 108 hBd3 (Or.inr yd3) 1 (by have z0 := yd3; omega) (by have z0 := yd3; omega) (by have z0 := yd3; omega) (by have z0 := yd3; omega) (by have z0 := yd3; omega) (by have z0 := yd3; omega) (by have z0 := yd3; omega) (by have z0 := yd3; omega) (by have z0 := yd3; omega) (by have z0 := yd3; omega) (by have z0 := yd3; omega) (by have z0 := yd3; omega) (by have z0 := yd3; omega) (by have z0 := yd3; omega) (by have z0 := yd3; omega) (by have z0 := yd3; omega) (by have z0 := yd3; omega) (by have z0 := yd3; omega) (by have z0 := yd3; omega) (by have z0 := yd3; omega) (by have z0 := yd3; omega) (by have z0 := yd3; omega) (by have z0 := yd3; omega) (by have z0 := yd3; omega) hI t0_0 t0_1 hT0 t1_0 t1_1 hT1 t2_0 hT2 t5_0 t5_1 hT5 t6_0 hT6 t11_0 t11_1 hT11 t12_0 t12_1 hT12 t13_0 hT13 t11_0 t11_1 hT11 t12_0 t12_1 hT12 t13_0 hT13 ⟨(by have y0 : (108 : Int32).toInt = 108 := rfl; have y1 : (108 : Int32).toInt = 108 := rfl; have y2 : (1 : Int32).toInt = 1 := rfl; omega), (by have y0 : (108 : Int32).toInt = 108 := rfl; have y1 : (108 : Int32).toInt = 108 := rfl; have y2 : (1 : Int32).toInt = 1 := rfl; omega)⟩ _) rfl rfl hT0 rfl hl.1 rfl (Nat.le_of_ble_eq_true rfl) ⟨by decide, by decide⟩ ⟨Nat.le_of_ble_eq_true rfl, Nat.le_of_ble_eq_true rfl⟩ d_1_11_78) (fun a695 u693 H locs hp694 V => ?_)
          obtain ⟨hI, hZ9⟩ := hp694
          obtain ⟨hu725, hZ9⟩ := hZ9
          obtain ⟨y697, hZ9⟩ := hZ9
          obtain ⟨y698, hZ9⟩ := hZ9
          obtain ⟨y700, hZ9⟩ := hZ9
          obtain ⟨y701, hZ9⟩ := hZ9
          obtain ⟨f702, hZ9⟩ := hZ9
          obtain ⟨y705, hZ9⟩ := hZ9
          obtain ⟨y706, hZ9⟩ := hZ9
          obtain ⟨f707, hZ9⟩ := hZ9
          obtain ⟨hO696, hZ9⟩ := hZ9
          obtain ⟨hO699, hZ9⟩ := hZ9
          obtain ⟨hA703, hZ9⟩ := hZ9
          obtain ⟨hO704, hZ9⟩ := hZ9
          obtain ⟨hA708, hZ9⟩ := hZ9
          obtain ⟨b709, hZ9⟩ := hZ9
          obtain ⟨b710, hZ9⟩ := hZ9
          obtain ⟨b711, hZ9⟩ := hZ9
          obtain ⟨b712, hZ9⟩ := hZ9
          obtain ⟨b713, hZ9⟩ := hZ9
          obtain ⟨b714, hZ9⟩ := hZ9
          obtain ⟨b715, hZ9⟩ := hZ9
          obtain ⟨b716, hZ9⟩ := hZ9
          obtain ⟨b717, hZ9⟩ := hZ9
          obtain ⟨b718, hZ9⟩ := hZ9
          obtain ⟨b719, hZ9⟩ := hZ9
          obtain ⟨b720, hZ9⟩ := hZ9
          replace hZ9 := hZ9.2
          obtain ⟨b722, hZ9⟩ := hZ9
          obtain ⟨b723, hE724⟩ := hZ9
          replace hO696 : u693[30]? = (some (q 30, .inr (5, [.ref (q 31), .long y697, .ref (q 9), .int y698])) : Option (Nat × va_E)) := hO696
          replace hO699 : u693[10]? = (some (q 10, .inr (2, [.ref (q 11), .int y700, .int y701])) : Option (Nat × va_E)) := hO699
          replace hA703 : u693[11]? = (some (q 11, .inl (g 0, (220 : Int32).toNatClampNeg, .inl f702)) : Option (Nat × va_E)) := hA703
          replace hO704 : u693[22]? = (some (q 22, .inr (2, [.ref (q 23), .int y705, .int y706])) : Option (Nat × va_E)) := hO704
          replace hA708 : u693[23]? = (some (q 23, .inl (g 0, (220 : Int32).toNatClampNeg, .inl f707)) : Option (Nat × va_E)) := hA708
          obtain ⟨p726, e727⟩ : ∃ z, z = (F_DW_sum (108 : Int32) (108 : Int32) (1 : Int32) t0_0 t0_1 t1_0 t1_1 t2_0 t5_0 t5_1 t6_0 t11_0 t11_1 t12_0 t12_1 t13_0 t11_0 t11_1 t12_0 t12_1 t13_0) := ⟨_, rfl⟩
          have e728 : a695 = p726.1 := congrArg (fun z => z.1) (hE724.trans e727.symm)
          have e729 : y697 = p726.2.1 := congrArg (fun z => z.2.1) (hE724.trans e727.symm)
          have e730 : y698 = p726.2.2.1 := congrArg (fun z => z.2.2.1) (hE724.trans e727.symm)
          have e731 : y700 = p726.2.2.2.1 := congrArg (fun z => z.2.2.2.1) (hE724.trans e727.symm)
          have e732 : y701 = p726.2.2.2.2.1 := congrArg (fun z => z.2.2.2.2.1) (hE724.trans e727.symm)
          have e733 : f702 = p726.2.2.2.2.2.1 := congrArg (fun z => z.2.2.2.2.2.1) (hE724.trans e727.symm)
          have e734 : y705 = p726.2.2.2.2.2.2.1 := congrArg (fun z => z.2.2.2.2.2.2.1) (hE724.trans e727.symm)
          have e735 : y706 = p726.2.2.2.2.2.2.2.1 := congrArg (fun z => z.2.2.2.2.2.2.2.1) (hE724.trans e727.symm)
          have e736 : f707 = p726.2.2.2.2.2.2.2.2 := congrArg (fun z => z.2.2.2.2.2.2.2.2) (hE724.trans e727.symm)
          replace b709 : q_F (0 ≤ a695.toInt) := b709
          replace b710 : q_F (a695.toInt ≤ 1) := b710
          replace b711 : q_F (y697.toInt ≤ 10000) := b711
          replace b712 : q_F (0 ≤ y700.toInt) := b712
          replace b713 : q_F (y700.toInt ≤ 220) := b713
          replace b714 : q_F (0 ≤ y701.toInt) := b714
          replace b715 : q_F (y701.toInt ≤ 1) := b715
          replace b716 : q_F (0 ≤ y705.toInt) := b716
          replace b717 : q_F (y705.toInt ≤ 220) := b717
          replace b718 : q_F (0 ≤ y706.toInt) := b718
          replace b719 : q_F (y706.toInt ≤ 1) := b719
          replace b720 : q_F (t11_0.toInt ≤ y697.toInt) := b720
          replace b722 : q_F (t0_1.toInt ≤ y698.toInt) := b722
          replace b723 : q_F (y698.toInt ≤ t0_1.toInt) := b723
          replace hT3 := (hu725 _ (by decide)).trans hT3
          replace hT4 := (hu725 _ (by decide)).trans hT4
          replace hT9 := (hu725 _ (by decide)).trans hT9
          replace hT10 := (hu725 _ (by decide)).trans hT10
          replace hT14 := (hu725 _ (by have z0 := yd5; simp only [List.mem_cons, List.not_mem_nil, or_false, not_or]; omega)).trans hT14
          replace hT15 := (hu725 _ (by have z0 := yd5; simp only [List.mem_cons, List.not_mem_nil, or_false, not_or]; omega)).trans hT15
          replace hT16 := (hu725 _ (by have z0 := yd5; simp only [List.mem_cons, List.not_mem_nil, or_false, not_or]; omega)).trans hT16
          replace hO106 := (hu725 _ (by decide)).trans hO106
          replace hF := q_uc hF hu725 (by simp)
          have hR737 := (show F_NH_decimal_ab_c78_10 x2 x3 x4 x5 t0_0 t0_1 t1_0 t1_1 t2_0 t3_0 t3_1 t4_0 t5_0 t5_1 t6_0 t7_0 t7_1 t8_0 t9_0 t9_1 t10_0 t11_0 t11_1 t12_0 t12_1 t13_0 t14_0 t14_1 t15_0 t15_1 t16_0 lx71 p726 = (F_NH_decimal_ab x2 x3 x4 x5 t0_0 t0_1 t1_0 t1_1 t2_0 t3_0 t3_1 t4_0 t5_0 t5_1 t6_0 t7_0 t7_1 t8_0 t9_0 t9_1 t10_0 t11_0 t11_1 t12_0 t12_1 t13_0 t14_0 t14_1 t15_0 t15_1 t16_0) from Eq.trans (by rw [e727, F_NH_decimal_ab_J36.eq_1, if_pos c103, if_neg c117, if_pos c547]) hR92)
          have hS738 := (show True ∧ S_NH_decimal_ab_c78_10 x2 x3 x4 x5 t0_0 t0_1 t1_0 t1_1 t2_0 t3_0 t3_1 t4_0 t5_0 t5_1 t6_0 t7_0 t7_1 t8_0 t9_0 t9_1 t10_0 t11_0 t11_1 t12_0 t12_1 t13_0 t14_0 t14_1 t15_0 t15_1 t16_0 lx71 p726 from (by rw [e727]; have h := hS93; rw [S_NH_decimal_ab_J36.eq_1] at h; rw [if_pos c103] at h; replace h := q_s2 h; replace h := q_s2 h; replace h := q_s2 h; replace h := q_s2 h; rw [if_neg c117] at h; rw [if_pos c547] at h; with_reducible exact h))
          refine q_goxv V (q_runSX (As := [.int a695]) (rest := []) (d := 7) (mc := 1) (ms := 6) C0 V rfl LS_NH_138 (X_NH_canHave l D g q u693  a695 hlt hI  ⟨(by first | with_reducible exact q_fe b709 | (have t1 : 0 ≤ a695.toInt := b709; omega)), (by first | with_reducible exact q_fe b710 | (have t1 : a695.toInt ≤ 1 := b710; omega))⟩ _) rfl hl.1 rfl (Nat.le_of_ble_eq_true rfl) ⟨by decide, by decide⟩ ⟨Nat.le_of_ble_eq_true rfl, Nat.le_of_ble_eq_true rfl⟩ d_1_11_81) (fun qx Ex ce u742 H locs hp743 V hce hcv hcl => ?_) (fun u742 H locs hp743 V => ?_)
          ·
            obtain ⟨cx745, he746, hc747, rfl, hE744⟩ := hp743
            have c748 : ¬ (F_NH_canHave a695) = (0 : Int32) := fun z => hc747 (((hE744) : cx745 = _).trans z)
            exact q_outT hno C0 V (⟨(F_NH_canHave a695), (he746.trans (congrArg qE ((hE744) : cx745 = _))), c748, hI, hF, y697, y698, y700, y701, f702, t3_0, t3_1, t4_0, y705, y706, f707, t9_0, t9_1, t10_0, t14_0, t14_1, t15_0, t15_1, t16_0, hO696, hO699, hA703, hT3, hT4, hO704, hA708, hT9, hT10, hT14, hT15, hT16, (show ((F_NH_canHave a695), y697, y698, y700, y701, f702, t3_0, t3_1, t4_0, y705, y706, f707, t9_0, t9_1, t10_0, t14_0, t14_1, t15_0, t15_1, t16_0) = (F_NH_decimal_ab x2 x3 x4 x5 t0_0 t0_1 t1_0 t1_1 t2_0 t3_0 t3_1 t4_0 t5_0 t5_1 t6_0 t7_0 t7_1 t8_0 t9_0 t9_1 t10_0 t11_0 t11_1 t12_0 t12_1 t13_0 t14_0 t14_1 t15_0 t15_1 t16_0) from Eq.trans (by have c748x := c748; rw [e728] at c748x; rw [e736, e735, e734, e733, e732, e731, e730, e729, e728, F_NH_decimal_ab_c78_10.eq_1, if_neg c748x]) hR737)⟩) hce hcv hcl (Nat.le_of_ble_eq_true rfl) (Nat.le_of_ble_eq_true rfl)
          ·
            obtain ⟨rfl, hE749⟩ := hp743
            have c748 : (F_NH_canHave a695) = (0 : Int32) := ((hE749) : (0 : Int32) = _).symm
            refine lv_goto (tgt := 136) hx hb d_1_11_84 (by decide) ?_
            refine lv_aload_n hx hb d_1_11_136 rfl (lv_at hl 2 rfl) ?_
            refine lv_iload hx hb d_1_11_137 (lv_at hl 6 rfl) ?_
            have ob751 : True ∧ S_NH_keepDecimal x5 y697 y698 y700 y701 f702 t9_0 t9_1 t10_0 t14_0 t14_1 t15_0 t15_1 t16_0 := (by rw [e733, e732, e731, e730, e729]; have h := hS738; rw [S_NH_decimal_ab_c78_10.eq_1] at h; have c748x := c748; rw [e728] at c748x; rw [if_pos c748x] at h; with_reducible exact h.2.1)
            refine q_goxv V (q_runVX (As := [.int x5]) (rest := []) (d := 8) (mc := 1) (ms := 6) (ci := 0) C0 V rfl LV_NH_281 (X_NH_keepDecimal l D g q u693  x5 d5 hBd5 yd5 gd5x5 hlt hI y697 y698 hO696 y700 y701 hO699 f702 hA703 t9_0 t9_1 hT9 t10_0 hT10 t14_0 t14_1 hT14 t15_0 t15_1 hT15 t16_0 hT16 ob751 _) rfl rfl hO106 rfl hl.1 rfl (Nat.le_of_ble_eq_true rfl) ⟨by decide, by decide⟩ ⟨Nat.le_of_ble_eq_true rfl, Nat.le_of_ble_eq_true rfl⟩ d_1_11_139) (fun qx Ex ce u752 H locs hp753 V hce hcv hcl => ?_) (fun u752 H locs hp753 V => ?_)
            ·
              obtain ⟨cx768, hZ9⟩ := hp753
              obtain ⟨he769, hZ9⟩ := hZ9
              obtain ⟨hc770, hZ9⟩ := hZ9
              obtain ⟨hI, hZ9⟩ := hZ9
              obtain ⟨hu771, hZ9⟩ := hZ9
              obtain ⟨y755, hZ9⟩ := hZ9
              obtain ⟨y756, hZ9⟩ := hZ9
              obtain ⟨f757, hZ9⟩ := hZ9
              obtain ⟨y760, hZ9⟩ := hZ9
              obtain ⟨y761, hZ9⟩ := hZ9
              obtain ⟨y763, hZ9⟩ := hZ9
              obtain ⟨y764, hZ9⟩ := hZ9
              obtain ⟨f765, hZ9⟩ := hZ9
              obtain ⟨hO754, hZ9⟩ := hZ9
              obtain ⟨hA758, hZ9⟩ := hZ9
              obtain ⟨hO759, hZ9⟩ := hZ9
              obtain ⟨hO762, hZ9⟩ := hZ9
              obtain ⟨hA766, hE767⟩ := hZ9
              replace hO754 : u752[20]? = (some (q 20, .inr (2, [.ref (q 21), .int y755, .int y756])) : Option (Nat × va_E)) := hO754
              replace hA758 : u752[21]? = (some (q 21, .inl (g 0, (220 : Int32).toNatClampNeg, .inl f757)) : Option (Nat × va_E)) := hA758
              replace hO759 : u752[d5]? = (some (q d5, .inr (3, [.ref (q (d5 + 1)), .int y760, .int y761])) : Option (Nat × va_E)) := hO759
              replace hO762 : u752[d5 + 1]? = (some (q (d5 + 1), .inr (2, [.ref (q (d5 + 2)), .int y763, .int y764])) : Option (Nat × va_E)) := hO762
              replace hA766 : u752[d5 + 2]? = (some (q (d5 + 2), .inl (g 0, (108 : Int32).toNatClampNeg, .inl f765)) : Option (Nat × va_E)) := hA766
              obtain ⟨p772, e773⟩ : ∃ z, z = (F_NH_keepDecimal x5 y697 y698 y700 y701 f702 t9_0 t9_1 t10_0 t14_0 t14_1 t15_0 t15_1 t16_0) := ⟨_, rfl⟩
              have c774 : ¬ p772.1 = (0 : Int32) := fun z => hc770 (((congrArg (fun z => z.1) (hE767.trans e773.symm)) : cx768 = _).trans z)
              have e775 : y755 = p772.2.1 := congrArg (fun z => z.2.1) (hE767.trans e773.symm)
              have e776 : y756 = p772.2.2.1 := congrArg (fun z => z.2.2.1) (hE767.trans e773.symm)
              have e777 : f757 = p772.2.2.2.1 := congrArg (fun z => z.2.2.2.1) (hE767.trans e773.symm)
              have e778 : y760 = p772.2.2.2.2.1 := congrArg (fun z => z.2.2.2.2.1) (hE767.trans e773.symm)
              have e779 : y761 = p772.2.2.2.2.2.1 := congrArg (fun z => z.2.2.2.2.2.1) (hE767.trans e773.symm)
              have e780 : y763 = p772.2.2.2.2.2.2.1 := congrArg (fun z => z.2.2.2.2.2.2.1) (hE767.trans e773.symm)
              have e781 : y764 = p772.2.2.2.2.2.2.2.1 := congrArg (fun z => z.2.2.2.2.2.2.2.1) (hE767.trans e773.symm)
              have e782 : f765 = p772.2.2.2.2.2.2.2.2 := congrArg (fun z => z.2.2.2.2.2.2.2.2) (hE767.trans e773.symm)
              replace hO696 := (hu771 _ (by have z0 := yd5; simp only [List.mem_cons, List.not_mem_nil, or_false, not_or]; omega)).trans hO696
              replace hO699 := (hu771 _ (by have z0 := yd5; simp only [List.mem_cons, List.not_mem_nil, or_false, not_or]; omega)).trans hO699
              replace hA703 := (hu771 _ (by have z0 := yd5; simp only [List.mem_cons, List.not_mem_nil, or_false, not_or]; omega)).trans hA703
              replace hT3 := (hu771 _ (by have z0 := yd5; simp only [List.mem_cons, List.not_mem_nil, or_false, not_or]; omega)).trans hT3
              replace hT4 := (hu771 _ (by have z0 := yd5; simp only [List.mem_cons, List.not_mem_nil, or_false, not_or]; omega)).trans hT4
              replace hO704 := (hu771 _ (by have z0 := yd5; simp only [List.mem_cons, List.not_mem_nil, or_false, not_or]; omega)).trans hO704
              replace hA708 := (hu771 _ (by have z0 := yd5; simp only [List.mem_cons, List.not_mem_nil, or_false, not_or]; omega)).trans hA708
              replace hF := q_uc hF hu771 (by simp)
              have hR783 := (show F_NH_decimal_ab_c139_11 x2 x3 x4 x5 t0_0 t0_1 t1_0 t1_1 t2_0 t3_0 t3_1 t4_0 t5_0 t5_1 t6_0 t7_0 t7_1 t8_0 t9_0 t9_1 t10_0 t11_0 t11_1 t12_0 t12_1 t13_0 t14_0 t14_1 t15_0 t15_1 t16_0 lx71 p726 y697 y698 y700 y701 f702 y705 y706 f707 p772 = (F_NH_decimal_ab x2 x3 x4 x5 t0_0 t0_1 t1_0 t1_1 t2_0 t3_0 t3_1 t4_0 t5_0 t5_1 t6_0 t7_0 t7_1 t8_0 t9_0 t9_1 t10_0 t11_0 t11_1 t12_0 t12_1 t13_0 t14_0 t14_1 t15_0 t15_1 t16_0) from Eq.trans (by have c748x := c748; rw [e728] at c748x; rw [e773, e736, e735, e734, e733, e732, e731, e730, e729, F_NH_decimal_ab_c78_10.eq_1, if_pos c748x]) hR737)
              have hS784 := (show True ∧ S_NH_decimal_ab_c139_11 x2 x3 x4 x5 t0_0 t0_1 t1_0 t1_1 t2_0 t3_0 t3_1 t4_0 t5_0 t5_1 t6_0 t7_0 t7_1 t8_0 t9_0 t9_1 t10_0 t11_0 t11_1 t12_0 t12_1 t13_0 t14_0 t14_1 t15_0 t15_1 t16_0 lx71 p726 y697 y698 y700 y701 f702 y705 y706 f707 p772 from (by rw [e773, e736, e735, e734, e733, e732, e731, e730, e729]; have h := hS738; rw [S_NH_decimal_ab_c78_10.eq_1] at h; have c748x := c748; rw [e728] at c748x; rw [if_pos c748x] at h; replace h := q_s2 h; with_reducible exact h))
              exact q_outT hno C0 V (⟨p772.1, (he769.trans (congrArg qE ((congrArg (fun z => z.1) (hE767.trans e773.symm)) : cx768 = _))), c774, hI, hF, y697, y698, y700, y701, f702, t3_0, t3_1, t4_0, y705, y706, f707, y755, y756, f757, y760, y761, y763, y764, f765, hO696, hO699, hA703, hT3, hT4, hO704, hA708, hO754, hA758, hO759, hO762, hA766, (show (p772.1, y697, y698, y700, y701, f702, t3_0, t3_1, t4_0, y705, y706, f707, y755, y756, f757, y760, y761, y763, y764, f765) = (F_NH_decimal_ab x2 x3 x4 x5 t0_0 t0_1 t1_0 t1_1 t2_0 t3_0 t3_1 t4_0 t5_0 t5_1 t6_0 t7_0 t7_1 t8_0 t9_0 t9_1 t10_0 t11_0 t11_1 t12_0 t12_1 t13_0 t14_0 t14_1 t15_0 t15_1 t16_0) from Eq.trans (by rw [e782, e781, e780, e779, e778, e777, e776, e775, F_NH_decimal_ab_c139_11.eq_1, if_neg c774]) hR783)⟩) hce hcv hcl (Nat.le_of_ble_eq_true rfl) (Nat.le_of_ble_eq_true rfl)
            ·
              obtain ⟨hI, hZ9⟩ := hp753
              obtain ⟨hu826, hZ9⟩ := hZ9
              obtain ⟨y789, hZ9⟩ := hZ9
              obtain ⟨y790, hZ9⟩ := hZ9
              obtain ⟨f791, hZ9⟩ := hZ9
              obtain ⟨y794, hZ9⟩ := hZ9
              obtain ⟨y795, hZ9⟩ := hZ9
              obtain ⟨y797, hZ9⟩ := hZ9
              obtain ⟨y798, hZ9⟩ := hZ9
              obtain ⟨f799, hZ9⟩ := hZ9
              obtain ⟨hO788, hZ9⟩ := hZ9
              obtain ⟨hA792, hZ9⟩ := hZ9
              obtain ⟨hO793, hZ9⟩ := hZ9
              obtain ⟨hO796, hZ9⟩ := hZ9
              obtain ⟨hA800, hZ9⟩ := hZ9
              obtain ⟨b801, hZ9⟩ := hZ9
              obtain ⟨b802, hZ9⟩ := hZ9
              obtain ⟨b803, hZ9⟩ := hZ9
              obtain ⟨b804, hZ9⟩ := hZ9
              obtain ⟨b805, hZ9⟩ := hZ9
              obtain ⟨b806, hZ9⟩ := hZ9
              obtain ⟨b807, hZ9⟩ := hZ9
              obtain ⟨b808, hZ9⟩ := hZ9
              obtain ⟨b809, hZ9⟩ := hZ9
              obtain ⟨b810, hZ9⟩ := hZ9
              obtain ⟨b811, hZ9⟩ := hZ9
              obtain ⟨b812, hZ9⟩ := hZ9
              obtain ⟨b813, hZ9⟩ := hZ9
              obtain ⟨b814, hZ9⟩ := hZ9
              obtain ⟨b815, hZ9⟩ := hZ9
              obtain ⟨b816, hZ9⟩ := hZ9
              obtain ⟨b817, hZ9⟩ := hZ9
              obtain ⟨b818, hZ9⟩ := hZ9
              obtain ⟨b819, hZ9⟩ := hZ9
              obtain ⟨b820, hZ9⟩ := hZ9
              obtain ⟨b821, hZ9⟩ := hZ9
              obtain ⟨b822, hZ9⟩ := hZ9
              obtain ⟨b823, hZ9⟩ := hZ9
              obtain ⟨b824, hE825⟩ := hZ9
              replace hO788 : u752[20]? = (some (q 20, .inr (2, [.ref (q 21), .int y789, .int y790])) : Option (Nat × va_E)) := hO788
              replace hA792 : u752[21]? = (some (q 21, .inl (g 0, (220 : Int32).toNatClampNeg, .inl f791)) : Option (Nat × va_E)) := hA792
              replace hO793 : u752[d5]? = (some (q d5, .inr (3, [.ref (q (d5 + 1)), .int y794, .int y795])) : Option (Nat × va_E)) := hO793
              replace hO796 : u752[d5 + 1]? = (some (q (d5 + 1), .inr (2, [.ref (q (d5 + 2)), .int y797, .int y798])) : Option (Nat × va_E)) := hO796
              replace hA800 : u752[d5 + 2]? = (some (q (d5 + 2), .inl (g 0, (108 : Int32).toNatClampNeg, .inl f799)) : Option (Nat × va_E)) := hA800
              obtain ⟨p772, e773⟩ : ∃ z, z = (F_NH_keepDecimal x5 y697 y698 y700 y701 f702 t9_0 t9_1 t10_0 t14_0 t14_1 t15_0 t15_1 t16_0) := ⟨_, rfl⟩
              have c774 : p772.1 = (0 : Int32) := ((congrArg (fun z => z.1) (hE825.trans e773.symm)) : (0 : Int32) = _).symm
              have e828 : y789 = p772.2.1 := congrArg (fun z => z.2.1) (hE825.trans e773.symm)
              have e829 : y790 = p772.2.2.1 := congrArg (fun z => z.2.2.1) (hE825.trans e773.symm)
              have e830 : f791 = p772.2.2.2.1 := congrArg (fun z => z.2.2.2.1) (hE825.trans e773.symm)
              have e831 : y794 = p772.2.2.2.2.1 := congrArg (fun z => z.2.2.2.2.1) (hE825.trans e773.symm)
              have e832 : y795 = p772.2.2.2.2.2.1 := congrArg (fun z => z.2.2.2.2.2.1) (hE825.trans e773.symm)
              have e833 : y797 = p772.2.2.2.2.2.2.1 := congrArg (fun z => z.2.2.2.2.2.2.1) (hE825.trans e773.symm)
              have e834 : y798 = p772.2.2.2.2.2.2.2.1 := congrArg (fun z => z.2.2.2.2.2.2.2.1) (hE825.trans e773.symm)
              have e835 : f799 = p772.2.2.2.2.2.2.2.2 := congrArg (fun z => z.2.2.2.2.2.2.2.2) (hE825.trans e773.symm)
              replace b801 : q_F (0 ≤ y789.toInt) := b801
              replace b802 : q_F (y789.toInt ≤ 220) := b802
              replace b803 : q_F (0 ≤ y790.toInt) := b803
              replace b804 : q_F (y790.toInt ≤ 1) := b804
              replace b805 : q_F (0 ≤ y794.toInt + 10000) := b805
              replace b806 : q_F (y794.toInt ≤ 10000) := b806
              replace b807 : q_F (1 ≤ y795.toInt) := b807
              replace b808 : q_F (y795.toInt ≤ 1000) := b808
              replace b809 : q_F (0 ≤ y797.toInt) := b809
              replace b810 : q_F (y797.toInt ≤ 108) := b810
              replace b811 : q_F (0 ≤ y798.toInt) := b811
              replace b812 : q_F (y798.toInt ≤ 1) := b812
              replace b813 : q_F (x5.toInt ≤ y789.toInt + 9) := b813
              replace b814 : q_F (y789.toInt ≤ x5.toInt + 220) := b814
              replace b815 : q_F (x5.toInt ≤ y790.toInt + 9) := b815
              replace b816 : q_F (y790.toInt ≤ x5.toInt + 1) := b816
              replace b817 : q_F (x5.toInt ≤ y794.toInt + 10009) := b817
              replace b818 : q_F (y794.toInt ≤ x5.toInt + 10000) := b818
              replace b819 : q_F (x5.toInt ≤ y795.toInt + 8) := b819
              replace b820 : q_F (y795.toInt ≤ x5.toInt + 1000) := b820
              replace b821 : q_F (x5.toInt ≤ y797.toInt + 9) := b821
              replace b822 : q_F (y797.toInt ≤ x5.toInt + 108) := b822
              replace b823 : q_F (x5.toInt ≤ y798.toInt + 9) := b823
              replace b824 : q_F (y798.toInt ≤ x5.toInt + 1) := b824
              replace hO696 := (hu826 _ (by have z0 := yd5; simp only [List.mem_cons, List.not_mem_nil, or_false, not_or]; omega)).trans hO696
              replace hO699 := (hu826 _ (by have z0 := yd5; simp only [List.mem_cons, List.not_mem_nil, or_false, not_or]; omega)).trans hO699
              replace hA703 := (hu826 _ (by have z0 := yd5; simp only [List.mem_cons, List.not_mem_nil, or_false, not_or]; omega)).trans hA703
              replace hT3 := (hu826 _ (by have z0 := yd5; simp only [List.mem_cons, List.not_mem_nil, or_false, not_or]; omega)).trans hT3
              replace hT4 := (hu826 _ (by have z0 := yd5; simp only [List.mem_cons, List.not_mem_nil, or_false, not_or]; omega)).trans hT4
              replace hO704 := (hu826 _ (by have z0 := yd5; simp only [List.mem_cons, List.not_mem_nil, or_false, not_or]; omega)).trans hO704
              replace hA708 := (hu826 _ (by have z0 := yd5; simp only [List.mem_cons, List.not_mem_nil, or_false, not_or]; omega)).trans hA708
              replace hF := q_uc hF hu826 (by simp)
              have hR783 := (show F_NH_decimal_ab_c139_11 x2 x3 x4 x5 t0_0 t0_1 t1_0 t1_1 t2_0 t3_0 t3_1 t4_0 t5_0 t5_1 t6_0 t7_0 t7_1 t8_0 t9_0 t9_1 t10_0 t11_0 t11_1 t12_0 t12_1 t13_0 t14_0 t14_1 t15_0 t15_1 t16_0 lx71 p726 y697 y698 y700 y701 f702 y705 y706 f707 p772 = (F_NH_decimal_ab x2 x3 x4 x5 t0_0 t0_1 t1_0 t1_1 t2_0 t3_0 t3_1 t4_0 t5_0 t5_1 t6_0 t7_0 t7_1 t8_0 t9_0 t9_1 t10_0 t11_0 t11_1 t12_0 t12_1 t13_0 t14_0 t14_1 t15_0 t15_1 t16_0) from Eq.trans (by have c748x := c748; rw [e728] at c748x; rw [e773, e736, e735, e734, e733, e732, e731, e730, e729, F_NH_decimal_ab_c78_10.eq_1, if_pos c748x]) hR737)
              have hS784 := (show True ∧ S_NH_decimal_ab_c139_11 x2 x3 x4 x5 t0_0 t0_1 t1_0 t1_1 t2_0 t3_0 t3_1 t4_0 t5_0 t5_1 t6_0 t7_0 t7_1 t8_0 t9_0 t9_1 t10_0 t11_0 t11_1 t12_0 t12_1 t13_0 t14_0 t14_1 t15_0 t15_1 t16_0 lx71 p726 y697 y698 y700 y701 f702 y705 y706 f707 p772 from (by rw [e773, e736, e735, e734, e733, e732, e731, e730, e729]; have h := hS738; rw [S_NH_decimal_ab_c78_10.eq_1] at h; have c748x := c748; rw [e728] at c748x; rw [if_pos c748x] at h; replace h := q_s2 h; with_reducible exact h))
              exact q_retX (q_retv C0 V (⟨hI, hF, y697, y698, y700, y701, f702, t3_0, t3_1, t4_0, y705, y706, f707, y789, y790, f791, y794, y795, y797, y798, f799, hO696, hO699, hA703, hT3, hT4, hO704, hA708, hO788, hA792, hO793, hO796, hA800, (show 0 ≤ y697.toInt + 20000 from (by have t1 : -10000 ≤ t11_0.toInt ∧ t11_0.toInt ≤ 10000 := btt11_0; have t2 : t11_0.toInt ≤ y697.toInt := b720; omega)), (show y697.toInt ≤ 20000 from (by first | with_reducible exact q_fe b711 | (have t1 : y697.toInt ≤ 10000 := b711; omega))), (show 0 ≤ y698.toInt from (by have t1 : 0 ≤ t0_1.toInt ∧ t0_1.toInt ≤ 1 := btt0_1; have t2 : t0_1.toInt ≤ y698.toInt := b722; omega)), (show y698.toInt ≤ 1 from (by have t1 : 0 ≤ t0_1.toInt ∧ t0_1.toInt ≤ 1 := btt0_1; have t2 : y698.toInt ≤ t0_1.toInt := b723; omega)), (show 0 ≤ y700.toInt from (by first | with_reducible exact q_fe b712 | (have t1 : 0 ≤ y700.toInt := b712; omega))), (show y700.toInt ≤ 220 from (by first | with_reducible exact q_fe b713 | (have t1 : y700.toInt ≤ 220 := b713; omega))), (show 0 ≤ y701.toInt from (by first | with_reducible exact q_fe b714 | (have t1 : 0 ≤ y701.toInt := b714; omega))), (show y701.toInt ≤ 1 from (by first | with_reducible exact q_fe b715 | (have t1 : y701.toInt ≤ 1 := b715; omega))), (show 0 ≤ t3_0.toInt from (by first | with_reducible exact (q_fe btt3_0).2 | with_reducible exact (q_fe btt3_0).1 | (have t1 : 0 ≤ t3_0.toInt ∧ t3_0.toInt ≤ 220 := btt3_0; omega))), (show t3_0.toInt ≤ 220 from (by first | with_reducible exact (q_fe btt3_0).2 | with_reducible exact (q_fe btt3_0).1 | (have t1 : 0 ≤ t3_0.toInt ∧ t3_0.toInt ≤ 220 := btt3_0; omega))), (show 0 ≤ t3_1.toInt from (by first | with_reducible exact (q_fe btt3_1).2 | with_reducible exact (q_fe btt3_1).1 | (have t1 : 0 ≤ t3_1.toInt ∧ t3_1.toInt ≤ 1 := btt3_1; omega))), (show t3_1.toInt ≤ 1 from (by first | with_reducible exact (q_fe btt3_1).2 | with_reducible exact (q_fe btt3_1).1 | (have t1 : 0 ≤ t3_1.toInt ∧ t3_1.toInt ≤ 1 := btt3_1; omega))), (show 0 ≤ y705.toInt from (by first | with_reducible exact q_fe b716 | (have t1 : 0 ≤ y705.toInt := b716; omega))), (show y705.toInt ≤ 220 from (by first | with_reducible exact q_fe b717 | (have t1 : y705.toInt ≤ 220 := b717; omega))), (show 0 ≤ y706.toInt from (by first | with_reducible exact q_fe b718 | (have t1 : 0 ≤ y706.toInt := b718; omega))), (show y706.toInt ≤ 2 from (by first | with_reducible exact q_fe b719 | (have t1 : y706.toInt ≤ 1 := b719; omega))), (show 0 ≤ y789.toInt from (by first | with_reducible exact q_fe b801 | (have t1 : 0 ≤ y789.toInt := b801; omega))), (show y789.toInt ≤ 220 from (by first | with_reducible exact q_fe b802 | (have t1 : y789.toInt ≤ 220 := b802; omega))), (show 0 ≤ y790.toInt from (by first | with_reducible exact q_fe b803 | (have t1 : 0 ≤ y790.toInt := b803; omega))), (show y790.toInt ≤ 1 from (by first | with_reducible exact q_fe b804 | (have t1 : y790.toInt ≤ 1 := b804; omega))), (show 0 ≤ y794.toInt + 10000 from (by first | with_reducible exact q_fe b805 | (have t1 : 0 ≤ y794.toInt + 10000 := b805; omega))), (show y794.toInt ≤ 10000 from (by first | with_reducible exact q_fe b806 | (have t1 : y794.toInt ≤ 10000 := b806; omega))), (show 1 ≤ y795.toInt from (by first | with_reducible exact q_fe b807 | (have t1 : 1 ≤ y795.toInt := b807; omega))), (show y795.toInt ≤ 1000 from (by first | with_reducible exact q_fe b808 | (have t1 : y795.toInt ≤ 1000 := b808; omega))), (show 0 ≤ y797.toInt from (by first | with_reducible exact q_fe b809 | (have t1 : 0 ≤ y797.toInt := b809; omega))), (show y797.toInt ≤ 108 from (by first | with_reducible exact q_fe b810 | (have t1 : y797.toInt ≤ 108 := b810; omega))), (show 0 ≤ y798.toInt from (by first | with_reducible exact q_fe b811 | (have t1 : 0 ≤ y798.toInt := b811; omega))), (show y798.toInt ≤ 1 from (by first | with_reducible exact q_fe b812 | (have t1 : y798.toInt ≤ 1 := b812; omega))), (show x3.toInt ≤ y697.toInt + 20009 from (by have t1 : -10000 ≤ t11_0.toInt ∧ t11_0.toInt ≤ 10000 := btt11_0; have t2 : x3.toInt ≤ 9 := ob109; have t3 : t11_0.toInt ≤ y697.toInt := b720; omega)), (show y697.toInt ≤ x3.toInt + 20000 from (by have t1 : 0 ≤ x3.toInt := ob108; have t2 : y697.toInt ≤ 10000 := b711; omega)), (show x4.toInt ≤ y697.toInt + 20009 from (by have t1 : -10000 ≤ t11_0.toInt ∧ t11_0.toInt ≤ 10000 := btt11_0; have t2 : x4.toInt ≤ 9 := ob114; have t3 : t11_0.toInt ≤ y697.toInt := b720; omega)), (show y697.toInt ≤ x4.toInt + 20000 from (by have t1 : 0 ≤ x4.toInt := ob113; have t2 : y697.toInt ≤ 10000 := b711; omega)), (show t11_0.toInt ≤ y697.toInt + 10000 from (by first | with_reducible exact q_fe b720 | (have t1 : t11_0.toInt ≤ y697.toInt := b720; omega))), (show y697.toInt ≤ t11_0.toInt + 20000 from (by have t1 : -10000 ≤ t11_0.toInt ∧ t11_0.toInt ≤ 10000 := btt11_0; have t2 : y697.toInt ≤ 10000 := b711; omega)), (show x3.toInt ≤ y698.toInt + 9 from (by have t1 : 0 ≤ t0_1.toInt ∧ t0_1.toInt ≤ 1 := btt0_1; have t2 : x3.toInt ≤ 9 := ob109; have t3 : t0_1.toInt ≤ y698.toInt := b722; omega)), (show y698.toInt ≤ x3.toInt + 1 from (by have t1 : 0 ≤ t0_1.toInt ∧ t0_1.toInt ≤ 1 := btt0_1; have t2 : 0 ≤ x3.toInt := ob108; have t3 : y698.toInt ≤ t0_1.toInt := b723; omega)), (show x4.toInt ≤ y698.toInt + 9 from (by have t1 : 0 ≤ t0_1.toInt ∧ t0_1.toInt ≤ 1 := btt0_1; have t2 : x4.toInt ≤ 9 := ob114; have t3 : t0_1.toInt ≤ y698.toInt := b722; omega)), (show y698.toInt ≤ x4.toInt + 1 from (by have t1 : 0 ≤ t0_1.toInt ∧ t0_1.toInt ≤ 1 := btt0_1; have t2 : 0 ≤ x4.toInt := ob113; have t3 : y698.toInt ≤ t0_1.toInt := b723; omega)), (show t0_1.toInt ≤ y698.toInt from (by first | with_reducible exact q_fe b722 | (have t1 : t0_1.toInt ≤ y698.toInt := b722; omega))), (show y698.toInt ≤ t0_1.toInt from (by first | with_reducible exact q_fe b723 | (have t1 : y698.toInt ≤ t0_1.toInt := b723; omega))), (show x3.toInt ≤ y700.toInt + 9 from (by have t1 : x3.toInt ≤ 9 := ob109; have t2 : 0 ≤ y700.toInt := b712; omega)), (show y700.toInt ≤ x3.toInt + 220 from (by have t1 : 0 ≤ x3.toInt := ob108; have t2 : y700.toInt ≤ 220 := b713; omega)), (show x4.toInt ≤ y700.toInt + 9 from (by have t1 : x4.toInt ≤ 9 := ob114; have t2 : 0 ≤ y700.toInt := b712; omega)), (show y700.toInt ≤ x4.toInt + 220 from (by have t1 : 0 ≤ x4.toInt := ob113; have t2 : y700.toInt ≤ 220 := b713; omega)), (show x3.toInt ≤ y701.toInt + 9 from (by have t1 : x3.toInt ≤ 9 := ob109; have t2 : 0 ≤ y701.toInt := b714; omega)), (show y701.toInt ≤ x3.toInt + 1 from (by have t1 : 0 ≤ x3.toInt := ob108; have t2 : y701.toInt ≤ 1 := b715; omega)), (show x4.toInt ≤ y701.toInt + 9 from (by have t1 : x4.toInt ≤ 9 := ob114; have t2 : 0 ≤ y701.toInt := b714; omega)), (show y701.toInt ≤ x4.toInt + 1 from (by have t1 : 0 ≤ x4.toInt := ob113; have t2 : y701.toInt ≤ 1 := b715; omega)), (show x3.toInt ≤ t3_0.toInt + 9 from (by have t1 : 0 ≤ t3_0.toInt ∧ t3_0.toInt ≤ 220 := btt3_0; have t2 : x3.toInt ≤ 9 := ob109; omega)), (show t3_0.toInt ≤ x3.toInt + 220 from (by have t1 : 0 ≤ t3_0.toInt ∧ t3_0.toInt ≤ 220 := btt3_0; have t2 : 0 ≤ x3.toInt := ob108; omega)), (show x4.toInt ≤ t3_0.toInt + 9 from (by have t1 : 0 ≤ t3_0.toInt ∧ t3_0.toInt ≤ 220 := btt3_0; have t2 : x4.toInt ≤ 9 := ob114; omega)), (show t3_0.toInt ≤ x4.toInt + 220 from (by have t1 : 0 ≤ t3_0.toInt ∧ t3_0.toInt ≤ 220 := btt3_0; have t2 : 0 ≤ x4.toInt := ob113; omega)), (show x3.toInt ≤ t3_1.toInt + 9 from (by have t1 : 0 ≤ t3_1.toInt ∧ t3_1.toInt ≤ 1 := btt3_1; have t2 : x3.toInt ≤ 9 := ob109; omega)), (show t3_1.toInt ≤ x3.toInt + 1 from (by have t1 : 0 ≤ t3_1.toInt ∧ t3_1.toInt ≤ 1 := btt3_1; have t2 : 0 ≤ x3.toInt := ob108; omega)), (show x4.toInt ≤ t3_1.toInt + 9 from (by have t1 : 0 ≤ t3_1.toInt ∧ t3_1.toInt ≤ 1 := btt3_1; have t2 : x4.toInt ≤ 9 := ob114; omega)), (show t3_1.toInt ≤ x4.toInt + 1 from (by have t1 : 0 ≤ t3_1.toInt ∧ t3_1.toInt ≤ 1 := btt3_1; have t2 : 0 ≤ x4.toInt := ob113; omega)), (show t3_1.toInt ≤ t3_1.toInt from (by omega)), (show x3.toInt ≤ y705.toInt + 9 from (by have t1 : x3.toInt ≤ 9 := ob109; have t2 : 0 ≤ y705.toInt := b716; omega)), (show y705.toInt ≤ x3.toInt + 220 from (by have t1 : 0 ≤ x3.toInt := ob108; have t2 : y705.toInt ≤ 220 := b717; omega)), (show x4.toInt ≤ y705.toInt + 9 from (by have t1 : x4.toInt ≤ 9 := ob114; have t2 : 0 ≤ y705.toInt := b716; omega)), (show y705.toInt ≤ x4.toInt + 220 from (by have t1 : 0 ≤ x4.toInt := ob113; have t2 : y705.toInt ≤ 220 := b717; omega)), (show x3.toInt ≤ y706.toInt + 9 from (by have t1 : x3.toInt ≤ 9 := ob109; have t2 : 0 ≤ y706.toInt := b718; omega)), (show x4.toInt ≤ y706.toInt + 9 from (by have t1 : x4.toInt ≤ 9 := ob114; have t2 : 0 ≤ y706.toInt := b718; omega)), (show y706.toInt ≤ t12_1.toInt + 1 from (by have t1 : 0 ≤ t12_1.toInt ∧ t12_1.toInt ≤ 1 := btt12_1; have t2 : y706.toInt ≤ 1 := b719; omega)), (show x3.toInt ≤ y789.toInt + 9 from (by have t1 : x3.toInt ≤ 9 := ob109; have t2 : 0 ≤ y789.toInt := b801; omega)), (show y789.toInt ≤ x3.toInt + 220 from (by have t1 : 0 ≤ x3.toInt := ob108; have t2 : y789.toInt ≤ 220 := b802; omega)), (show x4.toInt ≤ y789.toInt + 9 from (by have t1 : x4.toInt ≤ 9 := ob114; have t2 : 0 ≤ y789.toInt := b801; omega)), (show y789.toInt ≤ x4.toInt + 220 from (by have t1 : 0 ≤ x4.toInt := ob113; have t2 : y789.toInt ≤ 220 := b802; omega)), (show x5.toInt ≤ y789.toInt + 9 from (by first | with_reducible exact q_fe b813 | (have t1 : x5.toInt ≤ y789.toInt + 9 := b813; omega))), (show y789.toInt ≤ x5.toInt + 220 from (by first | with_reducible exact q_fe b814 | (have t1 : y789.toInt ≤ x5.toInt + 220 := b814; omega))), (show x3.toInt ≤ y790.toInt + 9 from (by have t1 : x3.toInt ≤ 9 := ob109; have t2 : 0 ≤ y790.toInt := b803; omega)), (show y790.toInt ≤ x3.toInt + 1 from (by have t1 : 0 ≤ x3.toInt := ob108; have t2 : y790.toInt ≤ 1 := b804; omega)), (show x4.toInt ≤ y790.toInt + 9 from (by have t1 : x4.toInt ≤ 9 := ob114; have t2 : 0 ≤ y790.toInt := b803; omega)), (show y790.toInt ≤ x4.toInt + 1 from (by have t1 : 0 ≤ x4.toInt := ob113; have t2 : y790.toInt ≤ 1 := b804; omega)), (show x5.toInt ≤ y790.toInt + 9 from (by first | with_reducible exact q_fe b815 | (have t1 : x5.toInt ≤ y790.toInt + 9 := b815; omega))), (show y790.toInt ≤ x5.toInt + 1 from (by first | with_reducible exact q_fe b816 | (have t1 : y790.toInt ≤ x5.toInt + 1 := b816; omega))), (show x3.toInt ≤ y794.toInt + 10009 from (by have t1 : x3.toInt ≤ 9 := ob109; have t2 : 0 ≤ y794.toInt + 10000 := b805; omega)), (show y794.toInt ≤ x3.toInt + 10000 from (by have t1 : 0 ≤ x3.toInt := ob108; have t2 : y794.toInt ≤ 10000 := b806; omega)), (show x4.toInt ≤ y794.toInt + 10009 from (by have t1 : x4.toInt ≤ 9 := ob114; have t2 : 0 ≤ y794.toInt + 10000 := b805; omega)), (show y794.toInt ≤ x4.toInt + 10000 from (by have t1 : 0 ≤ x4.toInt := ob113; have t2 : y794.toInt ≤ 10000 := b806; omega)), (show x5.toInt ≤ y794.toInt + 10009 from (by first | with_reducible exact q_fe b817 | (have t1 : x5.toInt ≤ y794.toInt + 10009 := b817; omega))), (show y794.toInt ≤ x5.toInt + 10000 from (by first | with_reducible exact q_fe b818 | (have t1 : y794.toInt ≤ x5.toInt + 10000 := b818; omega))), (show x3.toInt ≤ y795.toInt + 8 from (by have t1 : x3.toInt ≤ 9 := ob109; have t2 : 1 ≤ y795.toInt := b807; omega)), (show y795.toInt ≤ x3.toInt + 1000 from (by have t1 : 0 ≤ x3.toInt := ob108; have t2 : y795.toInt ≤ 1000 := b808; omega)), (show x4.toInt ≤ y795.toInt + 8 from (by have t1 : x4.toInt ≤ 9 := ob114; have t2 : 1 ≤ y795.toInt := b807; omega)), (show y795.toInt ≤ x4.toInt + 1000 from (by have t1 : 0 ≤ x4.toInt := ob113; have t2 : y795.toInt ≤ 1000 := b808; omega)), (show x5.toInt ≤ y795.toInt + 8 from (by first | with_reducible exact q_fe b819 | (have t1 : x5.toInt ≤ y795.toInt + 8 := b819; omega))), (show y795.toInt ≤ x5.toInt + 1000 from (by first | with_reducible exact q_fe b820 | (have t1 : y795.toInt ≤ x5.toInt + 1000 := b820; omega))), (show x3.toInt ≤ y797.toInt + 9 from (by have t1 : x3.toInt ≤ 9 := ob109; have t2 : 0 ≤ y797.toInt := b809; omega)), (show y797.toInt ≤ x3.toInt + 108 from (by have t1 : 0 ≤ x3.toInt := ob108; have t2 : y797.toInt ≤ 108 := b810; omega)), (show x4.toInt ≤ y797.toInt + 9 from (by have t1 : x4.toInt ≤ 9 := ob114; have t2 : 0 ≤ y797.toInt := b809; omega)), (show y797.toInt ≤ x4.toInt + 108 from (by have t1 : 0 ≤ x4.toInt := ob113; have t2 : y797.toInt ≤ 108 := b810; omega)), (show x5.toInt ≤ y797.toInt + 9 from (by first | with_reducible exact q_fe b821 | (have t1 : x5.toInt ≤ y797.toInt + 9 := b821; omega))), (show y797.toInt ≤ x5.toInt + 108 from (by first | with_reducible exact q_fe b822 | (have t1 : y797.toInt ≤ x5.toInt + 108 := b822; omega))), (show x3.toInt ≤ y798.toInt + 9 from (by have t1 : x3.toInt ≤ 9 := ob109; have t2 : 0 ≤ y798.toInt := b811; omega)), (show y798.toInt ≤ x3.toInt + 1 from (by have t1 : 0 ≤ x3.toInt := ob108; have t2 : y798.toInt ≤ 1 := b812; omega)), (show x4.toInt ≤ y798.toInt + 9 from (by have t1 : x4.toInt ≤ 9 := ob114; have t2 : 0 ≤ y798.toInt := b811; omega)), (show y798.toInt ≤ x4.toInt + 1 from (by have t1 : 0 ≤ x4.toInt := ob113; have t2 : y798.toInt ≤ 1 := b812; omega)), (show x5.toInt ≤ y798.toInt + 9 from (by first | with_reducible exact q_fe b823 | (have t1 : x5.toInt ≤ y798.toInt + 9 := b823; omega))), (show y798.toInt ≤ x5.toInt + 1 from (by first | with_reducible exact q_fe b824 | (have t1 : y798.toInt ≤ x5.toInt + 1 := b824; omega))), (show y706.toInt ≤ y697.toInt + 20001 from (by have t1 : -10000 ≤ t11_0.toInt ∧ t11_0.toInt ≤ 10000 := btt11_0; have t2 : y706.toInt ≤ 1 := b719; have t3 : t11_0.toInt ≤ y697.toInt := b720; omega)), (show y706.toInt ≤ y701.toInt + 1 from (by have t1 : 0 ≤ y701.toInt := b714; have t2 : y706.toInt ≤ 1 := b719; omega)), (show ((0 : Int32), y697, y698, y700, y701, f702, t3_0, t3_1, t4_0, y705, y706, f707, y789, y790, f791, y794, y795, y797, y798, f799) = (F_NH_decimal_ab x2 x3 x4 x5 t0_0 t0_1 t1_0 t1_1 t2_0 t3_0 t3_1 t4_0 t5_0 t5_1 t6_0 t7_0 t7_1 t8_0 t9_0 t9_1 t10_0 t11_0 t11_1 t12_0 t12_1 t13_0 t14_0 t14_1 t15_0 t15_1 t16_0) from Eq.trans (by rw [e835, e834, e833, e832, e831, e830, e829, e828, F_NH_decimal_ab_c139_11.eq_1, if_pos c774]) hR783)⟩) d_1_11_142)
  ·
    intro J89
    refine q_join (X := Unit) (fun z H locs ls _ => q_Wd D g (va_A ws sz) s ws H locs ∧ lv_has ls 7 [(0, .ref (q 0)), (1, .int x2), (2, .int x3), (3, .int x4), (4, .int x5)] ∧ F_NH_decimal_ab_J35 x2 x3 x4 x5 t0_0 t0_1 t1_0 t1_1 t2_0 t3_0 t3_1 t4_0 t5_0 t5_1 t6_0 t7_0 t7_1 t8_0 t9_0 t9_1 t10_0 t11_0 t11_1 t12_0 t12_1 t13_0 t14_0 t14_1 t15_0 t15_1 t16_0 = (F_NH_decimal_ab x2 x3 x4 x5 t0_0 t0_1 t1_0 t1_1 t2_0 t3_0 t3_1 t4_0 t5_0 t5_1 t6_0 t7_0 t7_1 t8_0 t9_0 t9_1 t10_0 t11_0 t11_1 t12_0 t12_1 t13_0 t14_0 t14_1 t15_0 t15_1 t16_0) ∧ True ∧ S_NH_decimal_ab_J35 x2 x3 x4 x5 t0_0 t0_1 t1_0 t1_1 t2_0 t3_0 t3_1 t4_0 t5_0 t5_1 t6_0 t7_0 t7_1 t8_0 t9_0 t9_1 t10_0 t11_0 t11_1 t12_0 t12_1 t13_0 t14_0 t14_1 t15_0 t15_1 t16_0) (fun z => []) 35 0 0 ?_ ?_
    ·
      rintro _ H locs ls _ ⟨V, hl, hR854, hS855⟩
      replace hl : lv_has ls 7 [(0, .ref (q 0)), (1, .int x2), (2, .int x3), (3, .int x4), (4, .int x5)] := hl
      refine lv_iconst (v := 0) hx hb d_1_11_35 (by decide) ?_
      exact J89 ((0 : Int32)) _ _ _ ws ⟨(show q_F (0 ≤ 0) from (show 0 ≤ 0 from by omega)), (show q_F (0 ≤ 1) from (show 0 ≤ 1 from by omega)), V, q_lw hl (q_lw1 0 rfl (q_lw1 1 rfl (q_lw1 2 rfl (q_lw1 3 rfl (q_lw1 4 rfl q_lw0))))), (show F_NH_decimal_ab_J36 x2 x3 x4 x5 t0_0 t0_1 t1_0 t1_1 t2_0 t3_0 t3_1 t4_0 t5_0 t5_1 t6_0 t7_0 t7_1 t8_0 t9_0 t9_1 t10_0 t11_0 t11_1 t12_0 t12_1 t13_0 t14_0 t14_1 t15_0 t15_1 t16_0 0 = (F_NH_decimal_ab x2 x3 x4 x5 t0_0 t0_1 t1_0 t1_1 t2_0 t3_0 t3_1 t4_0 t5_0 t5_1 t6_0 t7_0 t7_1 t8_0 t9_0 t9_1 t10_0 t11_0 t11_1 t12_0 t12_1 t13_0 t14_0 t14_1 t15_0 t15_1 t16_0) from Eq.trans (by rw [F_NH_decimal_ab_J35.eq_1]) hR854), (show True ∧ S_NH_decimal_ab_J36 x2 x3 x4 x5 t0_0 t0_1 t1_0 t1_1 t2_0 t3_0 t3_1 t4_0 t5_0 t5_1 t6_0 t7_0 t7_1 t8_0 t9_0 t9_1 t10_0 t11_0 t11_1 t12_0 t12_1 t13_0 t14_0 t14_1 t15_0 t15_1 t16_0 0 from (by have h := hS855; rw [S_NH_decimal_ab_J35.eq_1] at h; with_reducible exact h))⟩
    ·
      intro J853
      refine lv_if_lt (tgt := 35) hx hb d_1_11_1 (by decide) (fun c859 => ?_) (fun c859 => ?_)
      ·
        exact J853 (()) _ _ _ ws ⟨V, q_lw hl (q_lw1 0 rfl (q_lw1 1 rfl (q_lw1 2 rfl (q_lw1 3 rfl (q_lw1 4 rfl q_lw0))))), (show F_NH_decimal_ab_J35 x2 x3 x4 x5 t0_0 t0_1 t1_0 t1_1 t2_0 t3_0 t3_1 t4_0 t5_0 t5_1 t6_0 t7_0 t7_1 t8_0 t9_0 t9_1 t10_0 t11_0 t11_1 t12_0 t12_1 t13_0 t14_0 t14_1 t15_0 t15_1 t16_0 = (F_NH_decimal_ab x2 x3 x4 x5 t0_0 t0_1 t1_0 t1_1 t2_0 t3_0 t3_1 t4_0 t5_0 t5_1 t6_0 t7_0 t7_1 t8_0 t9_0 t9_1 t10_0 t11_0 t11_1 t12_0 t12_1 t13_0 t14_0 t14_1 t15_0 t15_1 t16_0) from (by rw [F_NH_decimal_ab.eq_1, if_pos c859])), (show True ∧ S_NH_decimal_ab_J35 x2 x3 x4 x5 t0_0 t0_1 t1_0 t1_1 t2_0 t3_0 t3_1 t4_0 t5_0 t5_1 t6_0 t7_0 t7_1 t8_0 t9_0 t9_1 t10_0 t11_0 t11_1 t12_0 t12_1 t13_0 t14_0 t14_1 t15_0 t15_1 t16_0 from (by have h := hS; rw [S_NH_decimal_ab.eq_1] at h; rw [if_pos c859] at h; with_reducible exact h))⟩
      ·
        refine lv_iload_n hx hb d_1_11_4 rfl (lv_at hl 1 rfl) ?_
        refine lv_iconst (v := 3) hx hb d_1_11_5 (by decide) ?_
        refine lv_icmp_gt (tgt := 35) hx hb d_1_11_6 (by decide) (fun c862 => ?_) (fun c862 => ?_)
        ·
          exact J853 (()) _ _ _ ws ⟨V, q_lw hl (q_lw1 0 rfl (q_lw1 1 rfl (q_lw1 2 rfl (q_lw1 3 rfl (q_lw1 4 rfl q_lw0))))), (show F_NH_decimal_ab_J35 x2 x3 x4 x5 t0_0 t0_1 t1_0 t1_1 t2_0 t3_0 t3_1 t4_0 t5_0 t5_1 t6_0 t7_0 t7_1 t8_0 t9_0 t9_1 t10_0 t11_0 t11_1 t12_0 t12_1 t13_0 t14_0 t14_1 t15_0 t15_1 t16_0 = (F_NH_decimal_ab x2 x3 x4 x5 t0_0 t0_1 t1_0 t1_1 t2_0 t3_0 t3_1 t4_0 t5_0 t5_1 t6_0 t7_0 t7_1 t8_0 t9_0 t9_1 t10_0 t11_0 t11_1 t12_0 t12_1 t13_0 t14_0 t14_1 t15_0 t15_1 t16_0) from (by rw [F_NH_decimal_ab.eq_1, if_neg c859, if_pos c862])), (show True ∧ S_NH_decimal_ab_J35 x2 x3 x4 x5 t0_0 t0_1 t1_0 t1_1 t2_0 t3_0 t3_1 t4_0 t5_0 t5_1 t6_0 t7_0 t7_1 t8_0 t9_0 t9_1 t10_0 t11_0 t11_1 t12_0 t12_1 t13_0 t14_0 t14_1 t15_0 t15_1 t16_0 from (by have h := hS; rw [S_NH_decimal_ab.eq_1] at h; rw [if_neg c859] at h; rw [if_pos c862] at h; with_reducible exact h))⟩
        ·
          refine lv_iload_n hx hb d_1_11_9 rfl (lv_at hl 2 rfl) ?_
          refine q_goi V (q_runS (As := [.int x3]) (rest := []) (d := 1) (mc := 0) (ms := 0) C0 V rfl LS_NH_212 (X_NH_isRegister l D g q ws  x3 hI   _) rfl hl.1 rfl (Nat.le_of_ble_eq_true rfl) ⟨by decide, by decide⟩ ⟨Nat.le_of_ble_eq_true rfl, Nat.le_of_ble_eq_true rfl⟩ d_1_11_10) (fun a867 u865 H locs hp866 V => ?_)
          obtain ⟨rfl, b868, b869, hE870⟩ := hp866
          have e871 : a867 = (F_NH_isRegister x3) := hE870
          clear b868
          clear b869
          refine lv_if_eq (tgt := 35) hx hb d_1_11_13 (by decide) (fun c872 => ?_) (fun c872 => ?_)
          ·
            exact J853 (()) _ _ _ ws ⟨V, q_lw hl (q_lw1 0 rfl (q_lw1 1 rfl (q_lw1 2 rfl (q_lw1 3 rfl (q_lw1 4 rfl q_lw0))))), (show F_NH_decimal_ab_J35 x2 x3 x4 x5 t0_0 t0_1 t1_0 t1_1 t2_0 t3_0 t3_1 t4_0 t5_0 t5_1 t6_0 t7_0 t7_1 t8_0 t9_0 t9_1 t10_0 t11_0 t11_1 t12_0 t12_1 t13_0 t14_0 t14_1 t15_0 t15_1 t16_0 = (F_NH_decimal_ab x2 x3 x4 x5 t0_0 t0_1 t1_0 t1_1 t2_0 t3_0 t3_1 t4_0 t5_0 t5_1 t6_0 t7_0 t7_1 t8_0 t9_0 t9_1 t10_0 t11_0 t11_1 t12_0 t12_1 t13_0 t14_0 t14_1 t15_0 t15_1 t16_0) from (by have c872x := c872; rw [e871] at c872x; rw [F_NH_decimal_ab.eq_1, if_neg c859, if_neg c862, if_pos c872x])), (show True ∧ S_NH_decimal_ab_J35 x2 x3 x4 x5 t0_0 t0_1 t1_0 t1_1 t2_0 t3_0 t3_1 t4_0 t5_0 t5_1 t6_0 t7_0 t7_1 t8_0 t9_0 t9_1 t10_0 t11_0 t11_1 t12_0 t12_1 t13_0 t14_0 t14_1 t15_0 t15_1 t16_0 from (by have h := hS; rw [S_NH_decimal_ab.eq_1] at h; rw [if_neg c859] at h; rw [if_neg c862] at h; have c872x := c872; rw [e871] at c872x; rw [if_pos c872x] at h; with_reducible exact h))⟩
          ·
            refine lv_iload_n hx hb d_1_11_16 rfl (lv_at hl 3 rfl) ?_
            refine q_goi V (q_runS (As := [.int x4]) (rest := []) (d := 1) (mc := 0) (ms := 0) C0 V rfl LS_NH_212 (X_NH_isRegister l D g q ws  x4 hI   _) rfl hl.1 rfl (Nat.le_of_ble_eq_true rfl) ⟨by decide, by decide⟩ ⟨Nat.le_of_ble_eq_true rfl, Nat.le_of_ble_eq_true rfl⟩ d_1_11_17) (fun a877 u875 H locs hp876 V => ?_)
            obtain ⟨rfl, b878, b879, hE880⟩ := hp876
            have e881 : a877 = (F_NH_isRegister x4) := hE880
            clear b878
            clear b879
            refine lv_if_eq (tgt := 35) hx hb d_1_11_20 (by decide) (fun c882 => ?_) (fun c882 => ?_)
            ·
              exact J853 (()) _ _ _ ws ⟨V, q_lw hl (q_lw1 0 rfl (q_lw1 1 rfl (q_lw1 2 rfl (q_lw1 3 rfl (q_lw1 4 rfl q_lw0))))), (show F_NH_decimal_ab_J35 x2 x3 x4 x5 t0_0 t0_1 t1_0 t1_1 t2_0 t3_0 t3_1 t4_0 t5_0 t5_1 t6_0 t7_0 t7_1 t8_0 t9_0 t9_1 t10_0 t11_0 t11_1 t12_0 t12_1 t13_0 t14_0 t14_1 t15_0 t15_1 t16_0 = (F_NH_decimal_ab x2 x3 x4 x5 t0_0 t0_1 t1_0 t1_1 t2_0 t3_0 t3_1 t4_0 t5_0 t5_1 t6_0 t7_0 t7_1 t8_0 t9_0 t9_1 t10_0 t11_0 t11_1 t12_0 t12_1 t13_0 t14_0 t14_1 t15_0 t15_1 t16_0) from (by have c872x := c872; rw [e871] at c872x; have c882x := c882; rw [e881] at c882x; rw [F_NH_decimal_ab.eq_1, if_neg c859, if_neg c862, if_neg c872x, if_pos c882x])), (show True ∧ S_NH_decimal_ab_J35 x2 x3 x4 x5 t0_0 t0_1 t1_0 t1_1 t2_0 t3_0 t3_1 t4_0 t5_0 t5_1 t6_0 t7_0 t7_1 t8_0 t9_0 t9_1 t10_0 t11_0 t11_1 t12_0 t12_1 t13_0 t14_0 t14_1 t15_0 t15_1 t16_0 from (by have h := hS; rw [S_NH_decimal_ab.eq_1] at h; rw [if_neg c859] at h; rw [if_neg c862] at h; have c872x := c872; rw [e871] at c872x; rw [if_neg c872x] at h; have c882x := c882; rw [e881] at c882x; rw [if_pos c882x] at h; with_reducible exact h))⟩
            ·
              refine lv_iload hx hb d_1_11_23 (lv_at hl 4 rfl) ?_
              refine q_goi V (q_runS (As := [.int x5]) (rest := []) (d := 1) (mc := 0) (ms := 0) C0 V rfl LS_NH_212 (X_NH_isRegister l D g q ws  x5 hI   _) rfl hl.1 rfl (Nat.le_of_ble_eq_true rfl) ⟨by decide, by decide⟩ ⟨Nat.le_of_ble_eq_true rfl, Nat.le_of_ble_eq_true rfl⟩ d_1_11_25) (fun a887 u885 H locs hp886 V => ?_)
              obtain ⟨rfl, b888, b889, hE890⟩ := hp886
              have e891 : a887 = (F_NH_isRegister x5) := hE890
              clear b888
              clear b889
              refine lv_if_eq (tgt := 35) hx hb d_1_11_28 (by decide) (fun c892 => ?_) (fun c892 => ?_)
              ·
                exact J853 (()) _ _ _ ws ⟨V, q_lw hl (q_lw1 0 rfl (q_lw1 1 rfl (q_lw1 2 rfl (q_lw1 3 rfl (q_lw1 4 rfl q_lw0))))), (show F_NH_decimal_ab_J35 x2 x3 x4 x5 t0_0 t0_1 t1_0 t1_1 t2_0 t3_0 t3_1 t4_0 t5_0 t5_1 t6_0 t7_0 t7_1 t8_0 t9_0 t9_1 t10_0 t11_0 t11_1 t12_0 t12_1 t13_0 t14_0 t14_1 t15_0 t15_1 t16_0 = (F_NH_decimal_ab x2 x3 x4 x5 t0_0 t0_1 t1_0 t1_1 t2_0 t3_0 t3_1 t4_0 t5_0 t5_1 t6_0 t7_0 t7_1 t8_0 t9_0 t9_1 t10_0 t11_0 t11_1 t12_0 t12_1 t13_0 t14_0 t14_1 t15_0 t15_1 t16_0) from (by have c872x := c872; rw [e871] at c872x; have c882x := c882; rw [e881] at c882x; have c892x := c892; rw [e891] at c892x; rw [F_NH_decimal_ab.eq_1, if_neg c859, if_neg c862, if_neg c872x, if_neg c882x, if_pos c892x])), (show True ∧ S_NH_decimal_ab_J35 x2 x3 x4 x5 t0_0 t0_1 t1_0 t1_1 t2_0 t3_0 t3_1 t4_0 t5_0 t5_1 t6_0 t7_0 t7_1 t8_0 t9_0 t9_1 t10_0 t11_0 t11_1 t12_0 t12_1 t13_0 t14_0 t14_1 t15_0 t15_1 t16_0 from (by have h := hS; rw [S_NH_decimal_ab.eq_1] at h; rw [if_neg c859] at h; rw [if_neg c862] at h; have c872x := c872; rw [e871] at c872x; rw [if_neg c872x] at h; have c882x := c882; rw [e881] at c882x; rw [if_neg c882x] at h; have c892x := c892; rw [e891] at c892x; rw [if_pos c892x] at h; with_reducible exact h))⟩
              ·
                refine lv_iconst (v := 1) hx hb d_1_11_31 (by decide) ?_
                refine lv_goto (tgt := 36) hx hb d_1_11_32 (by decide) ?_
                exact J89 ((1 : Int32)) _ _ _ ws ⟨(show q_F (0 ≤ 1) from (show 0 ≤ 1 from by omega)), (show q_F (1 ≤ 1) from (show 1 ≤ 1 from by omega)), V, q_lw hl (q_lw1 0 rfl (q_lw1 1 rfl (q_lw1 2 rfl (q_lw1 3 rfl (q_lw1 4 rfl q_lw0))))), (show F_NH_decimal_ab_J36 x2 x3 x4 x5 t0_0 t0_1 t1_0 t1_1 t2_0 t3_0 t3_1 t4_0 t5_0 t5_1 t6_0 t7_0 t7_1 t8_0 t9_0 t9_1 t10_0 t11_0 t11_1 t12_0 t12_1 t13_0 t14_0 t14_1 t15_0 t15_1 t16_0 1 = (F_NH_decimal_ab x2 x3 x4 x5 t0_0 t0_1 t1_0 t1_1 t2_0 t3_0 t3_1 t4_0 t5_0 t5_1 t6_0 t7_0 t7_1 t8_0 t9_0 t9_1 t10_0 t11_0 t11_1 t12_0 t12_1 t13_0 t14_0 t14_1 t15_0 t15_1 t16_0) from (by have c872x := c872; rw [e871] at c872x; have c882x := c882; rw [e881] at c882x; have c892x := c892; rw [e891] at c892x; rw [F_NH_decimal_ab.eq_1, if_neg c859, if_neg c862, if_neg c872x, if_neg c882x, if_neg c892x])), (show True ∧ S_NH_decimal_ab_J36 x2 x3 x4 x5 t0_0 t0_1 t1_0 t1_1 t2_0 t3_0 t3_1 t4_0 t5_0 t5_1 t6_0 t7_0 t7_1 t8_0 t9_0 t9_1 t10_0 t11_0 t11_1 t12_0 t12_1 t13_0 t14_0 t14_1 t15_0 t15_1 t16_0 1 from (by have h := hS; rw [S_NH_decimal_ab.eq_1] at h; rw [if_neg c859] at h; rw [if_neg c862] at h; have c872x := c872; rw [e871] at c872x; rw [if_neg c872x] at h; have c882x := c882; rw [e881] at c882x; rw [if_neg c882x] at h; have c892x := c892; rw [e891] at c892x; rw [if_neg c892x] at h; with_reducible exact h))⟩

