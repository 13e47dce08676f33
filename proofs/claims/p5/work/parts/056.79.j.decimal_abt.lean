/-! NumberHouse, exactly: j.decimal_abt -/
def F_NH_decimal_abt_c139 (x2 : Int32) (x3 : Int32) (x4 : Int32) (x5 : Int32) (t0_0 : Int64) (t0_1 : Int32) (t1_0 : Int32) (t1_1 : Int32) (t2_0 : (Nat → Int32)) (t3_0 : Int32) (t3_1 : Int32) (t4_0 : (Nat → Int32)) (t5_0 : Int32) (t5_1 : Int32) (t6_0 : (Nat → Int32)) (t7_0 : Int32) (t7_1 : Int32) (t8_0 : (Nat → Int32)) (t9_0 : Int32) (t9_1 : Int32) (t10_0 : (Nat → Int32)) (t11_0 : Int32) (t11_1 : Int32) (t12_0 : Int32) (t12_1 : Int32) (t13_0 : (Nat → Int32)) (lx58 : Int32) (p155 : (Int64 × Int32 × Int32 × Int32 × (Nat → Int32) × Int32 × Int32 × (Nat → Int32) × Int32 × Int32 × (Nat → Int32))) (y120 : Int64) (y121 : Int32) (y123 : Int32) (y124 : Int32) (f125 : (Nat → Int32)) (y128 : Int32) (y129 : Int32) (f130 : (Nat → Int32)) (y133 : Int32) (y134 : Int32) (f135 : (Nat → Int32)) (p194 : (Int32 × Int32 × Int32 × (Nat → Int32) × Int32 × Int32 × Int32 × Int32 × (Nat → Int32))) : Int32 × Int64 × Int32 × Int32 × Int32 × (Nat → Int32) × Int32 × Int32 × (Nat → Int32) × Int32 × Int32 × (Nat → Int32) × Int32 × Int32 × (Nat → Int32) × Int32 × Int32 × Int32 × Int32 × (Nat → Int32) := if p194.1 = (0 : Int32) then (((0 : Int32), y120, y121, y123, y124, f125, y128, y129, f130, y133, y134, f135, (p194.2.1 : Int32), (p194.2.2.1 : Int32), (p194.2.2.2.1 : (Nat → Int32)), (p194.2.2.2.2.1 : Int32), (p194.2.2.2.2.2.1 : Int32), (p194.2.2.2.2.2.2.1 : Int32), (p194.2.2.2.2.2.2.2.1 : Int32), (p194.2.2.2.2.2.2.2.2 : (Nat → Int32)))) else ((p194.1, y120, y121, y123, y124, f125, y128, y129, f130, y133, y134, f135, (p194.2.1 : Int32), (p194.2.2.1 : Int32), (p194.2.2.2.1 : (Nat → Int32)), (p194.2.2.2.2.1 : Int32), (p194.2.2.2.2.2.1 : Int32), (p194.2.2.2.2.2.2.1 : Int32), (p194.2.2.2.2.2.2.2.1 : Int32), (p194.2.2.2.2.2.2.2.2 : (Nat → Int32))))
def F_NH_decimal_abt_c133 (x2 : Int32) (x3 : Int32) (x4 : Int32) (x5 : Int32) (t0_0 : Int64) (t0_1 : Int32) (t1_0 : Int32) (t1_1 : Int32) (t2_0 : (Nat → Int32)) (t3_0 : Int32) (t3_1 : Int32) (t4_0 : (Nat → Int32)) (t5_0 : Int32) (t5_1 : Int32) (t6_0 : (Nat → Int32)) (t7_0 : Int32) (t7_1 : Int32) (t8_0 : (Nat → Int32)) (t9_0 : Int32) (t9_1 : Int32) (t10_0 : (Nat → Int32)) (t11_0 : Int32) (t11_1 : Int32) (t12_0 : Int32) (t12_1 : Int32) (t13_0 : (Nat → Int32)) (lx58 : Int32) (p155 : (Int64 × Int32 × Int32 × Int32 × (Nat → Int32) × Int32 × Int32 × (Nat → Int32) × Int32 × Int32 × (Nat → Int32))) : Int32 × Int64 × Int32 × Int32 × Int32 × (Nat → Int32) × Int32 × Int32 × (Nat → Int32) × Int32 × Int32 × (Nat → Int32) × Int32 × Int32 × (Nat → Int32) × Int32 × Int32 × Int32 × Int32 × (Nat → Int32) := F_NH_decimal_abt_c139 x2 x3 x4 x5 t0_0 t0_1 t1_0 t1_1 t2_0 t3_0 t3_1 t4_0 t5_0 t5_1 t6_0 t7_0 t7_1 t8_0 t9_0 t9_1 t10_0 t11_0 t11_1 t12_0 t12_1 t13_0 lx58 p155 (p155.1 : Int64) (p155.2.1 : Int32) (p155.2.2.1 : Int32) (p155.2.2.2.1 : Int32) (p155.2.2.2.2.1 : (Nat → Int32)) (p155.2.2.2.2.2.1 : Int32) (p155.2.2.2.2.2.2.1 : Int32) (p155.2.2.2.2.2.2.2.1 : (Nat → Int32)) (p155.2.2.2.2.2.2.2.2.1 : Int32) (p155.2.2.2.2.2.2.2.2.2.1 : Int32) (p155.2.2.2.2.2.2.2.2.2.2 : (Nat → Int32)) ((F_NH_keepDecimal x5 (p155.1 : Int64) (p155.2.1 : Int32) (p155.2.2.1 : Int32) (p155.2.2.2.1 : Int32) (p155.2.2.2.2.1 : (Nat → Int32)) t9_0 t9_1 t10_0 t11_0 t11_1 t12_0 t12_1 t13_0) : (Int32 × Int32 × Int32 × (Nat → Int32) × Int32 × Int32 × Int32 × Int32 × (Nat → Int32)))
def F_NH_decimal_abt_c139_5 (x2 : Int32) (x3 : Int32) (x4 : Int32) (x5 : Int32) (t0_0 : Int64) (t0_1 : Int32) (t1_0 : Int32) (t1_1 : Int32) (t2_0 : (Nat → Int32)) (t3_0 : Int32) (t3_1 : Int32) (t4_0 : (Nat → Int32)) (t5_0 : Int32) (t5_1 : Int32) (t6_0 : (Nat → Int32)) (t7_0 : Int32) (t7_1 : Int32) (t8_0 : (Nat → Int32)) (t9_0 : Int32) (t9_1 : Int32) (t10_0 : (Nat → Int32)) (t11_0 : Int32) (t11_1 : Int32) (t12_0 : Int32) (t12_1 : Int32) (t13_0 : (Nat → Int32)) (lx58 : Int32) (p307 : (Int64 × Int32 × Int32 × Int32 × (Nat → Int32) × Int32 × Int32 × (Nat → Int32) × Int32 × Int32 × (Nat → Int32))) (y272 : Int64) (y273 : Int32) (y275 : Int32) (y276 : Int32) (f277 : (Nat → Int32)) (y280 : Int32) (y281 : Int32) (f282 : (Nat → Int32)) (y285 : Int32) (y286 : Int32) (f287 : (Nat → Int32)) (p346 : (Int32 × Int32 × Int32 × (Nat → Int32) × Int32 × Int32 × Int32 × Int32 × (Nat → Int32))) : Int32 × Int64 × Int32 × Int32 × Int32 × (Nat → Int32) × Int32 × Int32 × (Nat → Int32) × Int32 × Int32 × (Nat → Int32) × Int32 × Int32 × (Nat → Int32) × Int32 × Int32 × Int32 × Int32 × (Nat → Int32) := if p346.1 = (0 : Int32) then (((0 : Int32), y272, y273, y275, y276, f277, y280, y281, f282, y285, y286, f287, (p346.2.1 : Int32), (p346.2.2.1 : Int32), (p346.2.2.2.1 : (Nat → Int32)), (p346.2.2.2.2.1 : Int32), (p346.2.2.2.2.2.1 : Int32), (p346.2.2.2.2.2.2.1 : Int32), (p346.2.2.2.2.2.2.2.1 : Int32), (p346.2.2.2.2.2.2.2.2 : (Nat → Int32)))) else ((p346.1, y272, y273, y275, y276, f277, y280, y281, f282, y285, y286, f287, (p346.2.1 : Int32), (p346.2.2.1 : Int32), (p346.2.2.2.1 : (Nat → Int32)), (p346.2.2.2.2.1 : Int32), (p346.2.2.2.2.2.1 : Int32), (p346.2.2.2.2.2.2.1 : Int32), (p346.2.2.2.2.2.2.2.1 : Int32), (p346.2.2.2.2.2.2.2.2 : (Nat → Int32))))
def F_NH_decimal_abt_c133_4 (x2 : Int32) (x3 : Int32) (x4 : Int32) (x5 : Int32) (t0_0 : Int64) (t0_1 : Int32) (t1_0 : Int32) (t1_1 : Int32) (t2_0 : (Nat → Int32)) (t3_0 : Int32) (t3_1 : Int32) (t4_0 : (Nat → Int32)) (t5_0 : Int32) (t5_1 : Int32) (t6_0 : (Nat → Int32)) (t7_0 : Int32) (t7_1 : Int32) (t8_0 : (Nat → Int32)) (t9_0 : Int32) (t9_1 : Int32) (t10_0 : (Nat → Int32)) (t11_0 : Int32) (t11_1 : Int32) (t12_0 : Int32) (t12_1 : Int32) (t13_0 : (Nat → Int32)) (lx58 : Int32) (p307 : (Int64 × Int32 × Int32 × Int32 × (Nat → Int32) × Int32 × Int32 × (Nat → Int32) × Int32 × Int32 × (Nat → Int32))) : Int32 × Int64 × Int32 × Int32 × Int32 × (Nat → Int32) × Int32 × Int32 × (Nat → Int32) × Int32 × Int32 × (Nat → Int32) × Int32 × Int32 × (Nat → Int32) × Int32 × Int32 × Int32 × Int32 × (Nat → Int32) := F_NH_decimal_abt_c139_5 x2 x3 x4 x5 t0_0 t0_1 t1_0 t1_1 t2_0 t3_0 t3_1 t4_0 t5_0 t5_1 t6_0 t7_0 t7_1 t8_0 t9_0 t9_1 t10_0 t11_0 t11_1 t12_0 t12_1 t13_0 lx58 p307 (p307.1 : Int64) (p307.2.1 : Int32) (p307.2.2.1 : Int32) (p307.2.2.2.1 : Int32) (p307.2.2.2.2.1 : (Nat → Int32)) (p307.2.2.2.2.2.1 : Int32) (p307.2.2.2.2.2.2.1 : Int32) (p307.2.2.2.2.2.2.2.1 : (Nat → Int32)) (p307.2.2.2.2.2.2.2.2.1 : Int32) (p307.2.2.2.2.2.2.2.2.2.1 : Int32) (p307.2.2.2.2.2.2.2.2.2.2 : (Nat → Int32)) ((F_NH_keepDecimal x5 (p307.1 : Int64) (p307.2.1 : Int32) (p307.2.2.1 : Int32) (p307.2.2.2.1 : Int32) (p307.2.2.2.2.1 : (Nat → Int32)) t9_0 t9_1 t10_0 t11_0 t11_1 t12_0 t12_1 t13_0) : (Int32 × Int32 × Int32 × (Nat → Int32) × Int32 × Int32 × Int32 × Int32 × (Nat → Int32)))
def F_NH_decimal_abt_c139_7 (x2 : Int32) (x3 : Int32) (x4 : Int32) (x5 : Int32) (t0_0 : Int64) (t0_1 : Int32) (t1_0 : Int32) (t1_1 : Int32) (t2_0 : (Nat → Int32)) (t3_0 : Int32) (t3_1 : Int32) (t4_0 : (Nat → Int32)) (t5_0 : Int32) (t5_1 : Int32) (t6_0 : (Nat → Int32)) (t7_0 : Int32) (t7_1 : Int32) (t8_0 : (Nat → Int32)) (t9_0 : Int32) (t9_1 : Int32) (t10_0 : (Nat → Int32)) (t11_0 : Int32) (t11_1 : Int32) (t12_0 : Int32) (t12_1 : Int32) (t13_0 : (Nat → Int32)) (lx58 : Int32) (p433 : (Int64 × Int32 × Int32 × Int32 × (Nat → Int32))) (y414 : Int64) (y415 : Int32) (y417 : Int32) (y418 : Int32) (f419 : (Nat → Int32)) (p466 : (Int32 × Int32 × Int32 × (Nat → Int32) × Int32 × Int32 × Int32 × Int32 × (Nat → Int32))) : Int32 × Int64 × Int32 × Int32 × Int32 × (Nat → Int32) × Int32 × Int32 × (Nat → Int32) × Int32 × Int32 × (Nat → Int32) × Int32 × Int32 × (Nat → Int32) × Int32 × Int32 × Int32 × Int32 × (Nat → Int32) := if p466.1 = (0 : Int32) then (((0 : Int32), y414, y415, y417, y418, f419, t3_0, t3_1, t4_0, t5_0, t5_1, t6_0, (p466.2.1 : Int32), (p466.2.2.1 : Int32), (p466.2.2.2.1 : (Nat → Int32)), (p466.2.2.2.2.1 : Int32), (p466.2.2.2.2.2.1 : Int32), (p466.2.2.2.2.2.2.1 : Int32), (p466.2.2.2.2.2.2.2.1 : Int32), (p466.2.2.2.2.2.2.2.2 : (Nat → Int32)))) else ((p466.1, y414, y415, y417, y418, f419, t3_0, t3_1, t4_0, t5_0, t5_1, t6_0, (p466.2.1 : Int32), (p466.2.2.1 : Int32), (p466.2.2.2.1 : (Nat → Int32)), (p466.2.2.2.2.1 : Int32), (p466.2.2.2.2.2.1 : Int32), (p466.2.2.2.2.2.2.1 : Int32), (p466.2.2.2.2.2.2.2.1 : Int32), (p466.2.2.2.2.2.2.2.2 : (Nat → Int32))))
def F_NH_decimal_abt_c100 (x2 : Int32) (x3 : Int32) (x4 : Int32) (x5 : Int32) (t0_0 : Int64) (t0_1 : Int32) (t1_0 : Int32) (t1_1 : Int32) (t2_0 : (Nat → Int32)) (t3_0 : Int32) (t3_1 : Int32) (t4_0 : (Nat → Int32)) (t5_0 : Int32) (t5_1 : Int32) (t6_0 : (Nat → Int32)) (t7_0 : Int32) (t7_1 : Int32) (t8_0 : (Nat → Int32)) (t9_0 : Int32) (t9_1 : Int32) (t10_0 : (Nat → Int32)) (t11_0 : Int32) (t11_1 : Int32) (t12_0 : Int32) (t12_1 : Int32) (t13_0 : (Nat → Int32)) (lx58 : Int32) (p433 : (Int64 × Int32 × Int32 × Int32 × (Nat → Int32))) : Int32 × Int64 × Int32 × Int32 × Int32 × (Nat → Int32) × Int32 × Int32 × (Nat → Int32) × Int32 × Int32 × (Nat → Int32) × Int32 × Int32 × (Nat → Int32) × Int32 × Int32 × Int32 × Int32 × (Nat → Int32) := F_NH_decimal_abt_c139_7 x2 x3 x4 x5 t0_0 t0_1 t1_0 t1_1 t2_0 t3_0 t3_1 t4_0 t5_0 t5_1 t6_0 t7_0 t7_1 t8_0 t9_0 t9_1 t10_0 t11_0 t11_1 t12_0 t12_1 t13_0 lx58 p433 (p433.1 : Int64) (p433.2.1 : Int32) (p433.2.2.1 : Int32) (p433.2.2.2.1 : Int32) (p433.2.2.2.2 : (Nat → Int32)) ((F_NH_keepDecimal x5 (p433.1 : Int64) (p433.2.1 : Int32) (p433.2.2.1 : Int32) (p433.2.2.2.1 : Int32) (p433.2.2.2.2 : (Nat → Int32)) t9_0 t9_1 t10_0 t11_0 t11_1 t12_0 t12_1 t13_0) : (Int32 × Int32 × Int32 × (Nat → Int32) × Int32 × Int32 × Int32 × Int32 × (Nat → Int32)))
def F_NH_decimal_abt_c139_9 (x2 : Int32) (x3 : Int32) (x4 : Int32) (x5 : Int32) (t0_0 : Int64) (t0_1 : Int32) (t1_0 : Int32) (t1_1 : Int32) (t2_0 : (Nat → Int32)) (t3_0 : Int32) (t3_1 : Int32) (t4_0 : (Nat → Int32)) (t5_0 : Int32) (t5_1 : Int32) (t6_0 : (Nat → Int32)) (t7_0 : Int32) (t7_1 : Int32) (t8_0 : (Nat → Int32)) (t9_0 : Int32) (t9_1 : Int32) (t10_0 : (Nat → Int32)) (t11_0 : Int32) (t11_1 : Int32) (t12_0 : Int32) (t12_1 : Int32) (t13_0 : (Nat → Int32)) (lx58 : Int32) (p566 : (Int32 × Int64 × Int32 × Int32 × Int32 × (Nat → Int32) × Int32 × Int32 × (Nat → Int32))) (y537 : Int64) (y538 : Int32) (y540 : Int32) (y541 : Int32) (f542 : (Nat → Int32)) (y545 : Int32) (y546 : Int32) (f547 : (Nat → Int32)) (p612 : (Int32 × Int32 × Int32 × (Nat → Int32) × Int32 × Int32 × Int32 × Int32 × (Nat → Int32))) : Int32 × Int64 × Int32 × Int32 × Int32 × (Nat → Int32) × Int32 × Int32 × (Nat → Int32) × Int32 × Int32 × (Nat → Int32) × Int32 × Int32 × (Nat → Int32) × Int32 × Int32 × Int32 × Int32 × (Nat → Int32) := if p612.1 = (0 : Int32) then (((0 : Int32), y537, y538, y540, y541, f542, t3_0, t3_1, t4_0, y545, y546, f547, (p612.2.1 : Int32), (p612.2.2.1 : Int32), (p612.2.2.2.1 : (Nat → Int32)), (p612.2.2.2.2.1 : Int32), (p612.2.2.2.2.2.1 : Int32), (p612.2.2.2.2.2.2.1 : Int32), (p612.2.2.2.2.2.2.2.1 : Int32), (p612.2.2.2.2.2.2.2.2 : (Nat → Int32)))) else ((p612.1, y537, y538, y540, y541, f542, t3_0, t3_1, t4_0, y545, y546, f547, (p612.2.1 : Int32), (p612.2.2.1 : Int32), (p612.2.2.2.1 : (Nat → Int32)), (p612.2.2.2.2.1 : Int32), (p612.2.2.2.2.2.1 : Int32), (p612.2.2.2.2.2.2.1 : Int32), (p612.2.2.2.2.2.2.2.1 : Int32), (p612.2.2.2.2.2.2.2.2 : (Nat → Int32))))
def F_NH_decimal_abt_c78 (x2 : Int32) (x3 : Int32) (x4 : Int32) (x5 : Int32) (t0_0 : Int64) (t0_1 : Int32) (t1_0 : Int32) (t1_1 : Int32) (t2_0 : (Nat → Int32)) (t3_0 : Int32) (t3_1 : Int32) (t4_0 : (Nat → Int32)) (t5_0 : Int32) (t5_1 : Int32) (t6_0 : (Nat → Int32)) (t7_0 : Int32) (t7_1 : Int32) (t8_0 : (Nat → Int32)) (t9_0 : Int32) (t9_1 : Int32) (t10_0 : (Nat → Int32)) (t11_0 : Int32) (t11_1 : Int32) (t12_0 : Int32) (t12_1 : Int32) (t13_0 : (Nat → Int32)) (lx58 : Int32) (p566 : (Int32 × Int64 × Int32 × Int32 × Int32 × (Nat → Int32) × Int32 × Int32 × (Nat → Int32))) : Int32 × Int64 × Int32 × Int32 × Int32 × (Nat → Int32) × Int32 × Int32 × (Nat → Int32) × Int32 × Int32 × (Nat → Int32) × Int32 × Int32 × (Nat → Int32) × Int32 × Int32 × Int32 × Int32 × (Nat → Int32) := if (F_NH_canHave (p566.1 : Int32)) = (0 : Int32) then (F_NH_decimal_abt_c139_9 x2 x3 x4 x5 t0_0 t0_1 t1_0 t1_1 t2_0 t3_0 t3_1 t4_0 t5_0 t5_1 t6_0 t7_0 t7_1 t8_0 t9_0 t9_1 t10_0 t11_0 t11_1 t12_0 t12_1 t13_0 lx58 p566 (p566.2.1 : Int64) (p566.2.2.1 : Int32) (p566.2.2.2.1 : Int32) (p566.2.2.2.2.1 : Int32) (p566.2.2.2.2.2.1 : (Nat → Int32)) (p566.2.2.2.2.2.2.1 : Int32) (p566.2.2.2.2.2.2.2.1 : Int32) (p566.2.2.2.2.2.2.2.2 : (Nat → Int32)) ((F_NH_keepDecimal x5 (p566.2.1 : Int64) (p566.2.2.1 : Int32) (p566.2.2.2.1 : Int32) (p566.2.2.2.2.1 : Int32) (p566.2.2.2.2.2.1 : (Nat → Int32)) t9_0 t9_1 t10_0 t11_0 t11_1 t12_0 t12_1 t13_0) : (Int32 × Int32 × Int32 × (Nat → Int32) × Int32 × Int32 × Int32 × Int32 × (Nat → Int32)))) else (((F_NH_canHave (p566.1 : Int32)), (p566.2.1 : Int64), (p566.2.2.1 : Int32), (p566.2.2.2.1 : Int32), (p566.2.2.2.2.1 : Int32), (p566.2.2.2.2.2.1 : (Nat → Int32)), t3_0, t3_1, t4_0, (p566.2.2.2.2.2.2.1 : Int32), (p566.2.2.2.2.2.2.2.1 : Int32), (p566.2.2.2.2.2.2.2.2 : (Nat → Int32)), t9_0, t9_1, t10_0, t11_0, t11_1, t12_0, t12_1, t13_0))
def F_NH_decimal_abt_c139_11 (x2 : Int32) (x3 : Int32) (x4 : Int32) (x5 : Int32) (t0_0 : Int64) (t0_1 : Int32) (t1_0 : Int32) (t1_1 : Int32) (t2_0 : (Nat → Int32)) (t3_0 : Int32) (t3_1 : Int32) (t4_0 : (Nat → Int32)) (t5_0 : Int32) (t5_1 : Int32) (t6_0 : (Nat → Int32)) (t7_0 : Int32) (t7_1 : Int32) (t8_0 : (Nat → Int32)) (t9_0 : Int32) (t9_1 : Int32) (t10_0 : (Nat → Int32)) (t11_0 : Int32) (t11_1 : Int32) (t12_0 : Int32) (t12_1 : Int32) (t13_0 : (Nat → Int32)) (lx58 : Int32) (p710 : (Int32 × Int64 × Int32 × Int32 × Int32 × (Nat → Int32) × Int32 × Int32 × (Nat → Int32))) (y681 : Int64) (y682 : Int32) (y684 : Int32) (y685 : Int32) (f686 : (Nat → Int32)) (y689 : Int32) (y690 : Int32) (f691 : (Nat → Int32)) (p756 : (Int32 × Int32 × Int32 × (Nat → Int32) × Int32 × Int32 × Int32 × Int32 × (Nat → Int32))) : Int32 × Int64 × Int32 × Int32 × Int32 × (Nat → Int32) × Int32 × Int32 × (Nat → Int32) × Int32 × Int32 × (Nat → Int32) × Int32 × Int32 × (Nat → Int32) × Int32 × Int32 × Int32 × Int32 × (Nat → Int32) := if p756.1 = (0 : Int32) then (((0 : Int32), y681, y682, y684, y685, f686, t3_0, t3_1, t4_0, y689, y690, f691, (p756.2.1 : Int32), (p756.2.2.1 : Int32), (p756.2.2.2.1 : (Nat → Int32)), (p756.2.2.2.2.1 : Int32), (p756.2.2.2.2.2.1 : Int32), (p756.2.2.2.2.2.2.1 : Int32), (p756.2.2.2.2.2.2.2.1 : Int32), (p756.2.2.2.2.2.2.2.2 : (Nat → Int32)))) else ((p756.1, y681, y682, y684, y685, f686, t3_0, t3_1, t4_0, y689, y690, f691, (p756.2.1 : Int32), (p756.2.2.1 : Int32), (p756.2.2.2.1 : (Nat → Int32)), (p756.2.2.2.2.1 : Int32), (p756.2.2.2.2.2.1 : Int32), (p756.2.2.2.2.2.2.1 : Int32), (p756.2.2.2.2.2.2.2.1 : Int32), (p756.2.2.2.2.2.2.2.2 : (Nat → Int32))))
def F_NH_decimal_abt_c78_10 (x2 : Int32) (x3 : Int32) (x4 : Int32) (x5 : Int32) (t0_0 : Int64) (t0_1 : Int32) (t1_0 : Int32) (t1_1 : Int32) (t2_0 : (Nat → Int32)) (t3_0 : Int32) (t3_1 : Int32) (t4_0 : (Nat → Int32)) (t5_0 : Int32) (t5_1 : Int32) (t6_0 : (Nat → Int32)) (t7_0 : Int32) (t7_1 : Int32) (t8_0 : (Nat → Int32)) (t9_0 : Int32) (t9_1 : Int32) (t10_0 : (Nat → Int32)) (t11_0 : Int32) (t11_1 : Int32) (t12_0 : Int32) (t12_1 : Int32) (t13_0 : (Nat → Int32)) (lx58 : Int32) (p710 : (Int32 × Int64 × Int32 × Int32 × Int32 × (Nat → Int32) × Int32 × Int32 × (Nat → Int32))) : Int32 × Int64 × Int32 × Int32 × Int32 × (Nat → Int32) × Int32 × Int32 × (Nat → Int32) × Int32 × Int32 × (Nat → Int32) × Int32 × Int32 × (Nat → Int32) × Int32 × Int32 × Int32 × Int32 × (Nat → Int32) := if (F_NH_canHave (p710.1 : Int32)) = (0 : Int32) then (F_NH_decimal_abt_c139_11 x2 x3 x4 x5 t0_0 t0_1 t1_0 t1_1 t2_0 t3_0 t3_1 t4_0 t5_0 t5_1 t6_0 t7_0 t7_1 t8_0 t9_0 t9_1 t10_0 t11_0 t11_1 t12_0 t12_1 t13_0 lx58 p710 (p710.2.1 : Int64) (p710.2.2.1 : Int32) (p710.2.2.2.1 : Int32) (p710.2.2.2.2.1 : Int32) (p710.2.2.2.2.2.1 : (Nat → Int32)) (p710.2.2.2.2.2.2.1 : Int32) (p710.2.2.2.2.2.2.2.1 : Int32) (p710.2.2.2.2.2.2.2.2 : (Nat → Int32)) ((F_NH_keepDecimal x5 (p710.2.1 : Int64) (p710.2.2.1 : Int32) (p710.2.2.2.1 : Int32) (p710.2.2.2.2.1 : Int32) (p710.2.2.2.2.2.1 : (Nat → Int32)) t9_0 t9_1 t10_0 t11_0 t11_1 t12_0 t12_1 t13_0) : (Int32 × Int32 × Int32 × (Nat → Int32) × Int32 × Int32 × Int32 × Int32 × (Nat → Int32)))) else (((F_NH_canHave (p710.1 : Int32)), (p710.2.1 : Int64), (p710.2.2.1 : Int32), (p710.2.2.2.1 : Int32), (p710.2.2.2.2.1 : Int32), (p710.2.2.2.2.2.1 : (Nat → Int32)), t3_0, t3_1, t4_0, (p710.2.2.2.2.2.2.1 : Int32), (p710.2.2.2.2.2.2.2.1 : Int32), (p710.2.2.2.2.2.2.2.2 : (Nat → Int32)), t9_0, t9_1, t10_0, t11_0, t11_1, t12_0, t12_1, t13_0))
def F_NH_decimal_abt_J36 (x2 : Int32) (x3 : Int32) (x4 : Int32) (x5 : Int32) (t0_0 : Int64) (t0_1 : Int32) (t1_0 : Int32) (t1_1 : Int32) (t2_0 : (Nat → Int32)) (t3_0 : Int32) (t3_1 : Int32) (t4_0 : (Nat → Int32)) (t5_0 : Int32) (t5_1 : Int32) (t6_0 : (Nat → Int32)) (t7_0 : Int32) (t7_1 : Int32) (t8_0 : (Nat → Int32)) (t9_0 : Int32) (t9_1 : Int32) (t10_0 : (Nat → Int32)) (t11_0 : Int32) (t11_1 : Int32) (t12_0 : Int32) (t12_1 : Int32) (t13_0 : (Nat → Int32)) (lx58 : Int32) : Int32 × Int64 × Int32 × Int32 × Int32 × (Nat → Int32) × Int32 × Int32 × (Nat → Int32) × Int32 × Int32 × (Nat → Int32) × Int32 × Int32 × (Nat → Int32) × Int32 × Int32 × Int32 × Int32 × (Nat → Int32) := if (F_NH_need lx58) = (0 : Int32) then (if (1 : Int32) < x2 then (if x2 = (2 : Int32) then (F_NH_decimal_abt_c100 x2 x3 x4 x5 t0_0 t0_1 t1_0 t1_1 t2_0 t3_0 t3_1 t4_0 t5_0 t5_1 t6_0 t7_0 t7_1 t8_0 t9_0 t9_1 t10_0 t11_0 t11_1 t12_0 t12_1 t13_0 lx58 ((F_DW_multiply (108 : Int32) (108 : Int32) t0_0 t0_1 t1_0 t1_1 t2_0 t11_0 t11_1 t12_0 t12_1 t13_0 t11_0 t11_1 t12_0 t12_1 t13_0) : (Int64 × Int32 × Int32 × Int32 × (Nat → Int32)))) else (if t12_0 ≤ (0 : Int32) then (if (F_NH_canHave (0 : Int32)) = (0 : Int32) then (F_NH_decimal_abt_c133 x2 x3 x4 x5 t0_0 t0_1 t1_0 t1_1 t2_0 t3_0 t3_1 t4_0 t5_0 t5_1 t6_0 t7_0 t7_1 t8_0 t9_0 t9_1 t10_0 t11_0 t11_1 t12_0 t12_1 t13_0 lx58 ((F_DW_rest_a (108 : Int32) t0_0 t0_1 t1_0 t1_1 t2_0 t3_0 t3_1 t4_0 t5_0 t5_1 t6_0 t7_0 t7_1 t8_0 t11_0 t11_1 t12_0 t12_1 t13_0) : (Int64 × Int32 × Int32 × Int32 × (Nat → Int32) × Int32 × Int32 × (Nat → Int32) × Int32 × Int32 × (Nat → Int32)))) else (((F_NH_canHave (0 : Int32)), t0_0, t0_1, t1_0, t1_1, t2_0, t3_0, t3_1, t4_0, t5_0, t5_1, t6_0, t9_0, t9_1, t10_0, t11_0, t11_1, t12_0, t12_1, t13_0))) else (if (F_NH_canHave (1 : Int32)) = (0 : Int32) then (F_NH_decimal_abt_c133_4 x2 x3 x4 x5 t0_0 t0_1 t1_0 t1_1 t2_0 t3_0 t3_1 t4_0 t5_0 t5_1 t6_0 t7_0 t7_1 t8_0 t9_0 t9_1 t10_0 t11_0 t11_1 t12_0 t12_1 t13_0 lx58 ((F_DW_rest_a (108 : Int32) t0_0 t0_1 t1_0 t1_1 t2_0 t3_0 t3_1 t4_0 t5_0 t5_1 t6_0 t7_0 t7_1 t8_0 t11_0 t11_1 t12_0 t12_1 t13_0) : (Int64 × Int32 × Int32 × Int32 × (Nat → Int32) × Int32 × Int32 × (Nat → Int32) × Int32 × Int32 × (Nat → Int32)))) else (((F_NH_canHave (1 : Int32)), t0_0, t0_1, t1_0, t1_1, t2_0, t3_0, t3_1, t4_0, t5_0, t5_1, t6_0, t9_0, t9_1, t10_0, t11_0, t11_1, t12_0, t12_1, t13_0))))) else (if x2 = (1 : Int32) then (F_NH_decimal_abt_c78_10 x2 x3 x4 x5 t0_0 t0_1 t1_0 t1_1 t2_0 t3_0 t3_1 t4_0 t5_0 t5_1 t6_0 t7_0 t7_1 t8_0 t9_0 t9_1 t10_0 t11_0 t11_1 t12_0 t12_1 t13_0 lx58 ((F_DW_sum (108 : Int32) (108 : Int32) (1 : Int32) t0_0 t0_1 t1_0 t1_1 t2_0 t5_0 t5_1 t6_0 t11_0 t11_1 t12_0 t12_1 t13_0 t11_0 t11_1 t12_0 t12_1 t13_0) : (Int32 × Int64 × Int32 × Int32 × Int32 × (Nat → Int32) × Int32 × Int32 × (Nat → Int32)))) else (F_NH_decimal_abt_c78 x2 x3 x4 x5 t0_0 t0_1 t1_0 t1_1 t2_0 t3_0 t3_1 t4_0 t5_0 t5_1 t6_0 t7_0 t7_1 t8_0 t9_0 t9_1 t10_0 t11_0 t11_1 t12_0 t12_1 t13_0 lx58 ((F_DW_sum (108 : Int32) (108 : Int32) (0 : Int32) t0_0 t0_1 t1_0 t1_1 t2_0 t5_0 t5_1 t6_0 t11_0 t11_1 t12_0 t12_1 t13_0 t11_0 t11_1 t12_0 t12_1 t13_0) : (Int32 × Int64 × Int32 × Int32 × Int32 × (Nat → Int32) × Int32 × Int32 × (Nat → Int32)))))) else (((F_NH_need lx58), t0_0, t0_1, t1_0, t1_1, t2_0, t3_0, t3_1, t4_0, t5_0, t5_1, t6_0, t9_0, t9_1, t10_0, t11_0, t11_1, t12_0, t12_1, t13_0))
def F_NH_decimal_abt_J35 (x2 : Int32) (x3 : Int32) (x4 : Int32) (x5 : Int32) (t0_0 : Int64) (t0_1 : Int32) (t1_0 : Int32) (t1_1 : Int32) (t2_0 : (Nat → Int32)) (t3_0 : Int32) (t3_1 : Int32) (t4_0 : (Nat → Int32)) (t5_0 : Int32) (t5_1 : Int32) (t6_0 : (Nat → Int32)) (t7_0 : Int32) (t7_1 : Int32) (t8_0 : (Nat → Int32)) (t9_0 : Int32) (t9_1 : Int32) (t10_0 : (Nat → Int32)) (t11_0 : Int32) (t11_1 : Int32) (t12_0 : Int32) (t12_1 : Int32) (t13_0 : (Nat → Int32)) : Int32 × Int64 × Int32 × Int32 × Int32 × (Nat → Int32) × Int32 × Int32 × (Nat → Int32) × Int32 × Int32 × (Nat → Int32) × Int32 × Int32 × (Nat → Int32) × Int32 × Int32 × Int32 × Int32 × (Nat → Int32) := F_NH_decimal_abt_J36 x2 x3 x4 x5 t0_0 t0_1 t1_0 t1_1 t2_0 t3_0 t3_1 t4_0 t5_0 t5_1 t6_0 t7_0 t7_1 t8_0 t9_0 t9_1 t10_0 t11_0 t11_1 t12_0 t12_1 t13_0 0
def F_NH_decimal_abt (x2 : Int32) (x3 : Int32) (x4 : Int32) (x5 : Int32) (t0_0 : Int64) (t0_1 : Int32) (t1_0 : Int32) (t1_1 : Int32) (t2_0 : (Nat → Int32)) (t3_0 : Int32) (t3_1 : Int32) (t4_0 : (Nat → Int32)) (t5_0 : Int32) (t5_1 : Int32) (t6_0 : (Nat → Int32)) (t7_0 : Int32) (t7_1 : Int32) (t8_0 : (Nat → Int32)) (t9_0 : Int32) (t9_1 : Int32) (t10_0 : (Nat → Int32)) (t11_0 : Int32) (t11_1 : Int32) (t12_0 : Int32) (t12_1 : Int32) (t13_0 : (Nat → Int32)) : Int32 × Int64 × Int32 × Int32 × Int32 × (Nat → Int32) × Int32 × Int32 × (Nat → Int32) × Int32 × Int32 × (Nat → Int32) × Int32 × Int32 × (Nat → Int32) × Int32 × Int32 × Int32 × Int32 × (Nat → Int32) := if x2 < (0 : Int32) then (F_NH_decimal_abt_J35 x2 x3 x4 x5 t0_0 t0_1 t1_0 t1_1 t2_0 t3_0 t3_1 t4_0 t5_0 t5_1 t6_0 t7_0 t7_1 t8_0 t9_0 t9_1 t10_0 t11_0 t11_1 t12_0 t12_1 t13_0) else (if (3 : Int32) < x2 then (F_NH_decimal_abt_J35 x2 x3 x4 x5 t0_0 t0_1 t1_0 t1_1 t2_0 t3_0 t3_1 t4_0 t5_0 t5_1 t6_0 t7_0 t7_1 t8_0 t9_0 t9_1 t10_0 t11_0 t11_1 t12_0 t12_1 t13_0) else (if ((F_NH_isRegister x3) : Int32) = (0 : Int32) then (F_NH_decimal_abt_J35 x2 x3 x4 x5 t0_0 t0_1 t1_0 t1_1 t2_0 t3_0 t3_1 t4_0 t5_0 t5_1 t6_0 t7_0 t7_1 t8_0 t9_0 t9_1 t10_0 t11_0 t11_1 t12_0 t12_1 t13_0) else (if ((F_NH_isRegister x4) : Int32) = (0 : Int32) then (F_NH_decimal_abt_J35 x2 x3 x4 x5 t0_0 t0_1 t1_0 t1_1 t2_0 t3_0 t3_1 t4_0 t5_0 t5_1 t6_0 t7_0 t7_1 t8_0 t9_0 t9_1 t10_0 t11_0 t11_1 t12_0 t12_1 t13_0) else (if ((F_NH_isRegister x5) : Int32) = (0 : Int32) then (F_NH_decimal_abt_J35 x2 x3 x4 x5 t0_0 t0_1 t1_0 t1_1 t2_0 t3_0 t3_1 t4_0 t5_0 t5_1 t6_0 t7_0 t7_1 t8_0 t9_0 t9_1 t10_0 t11_0 t11_1 t12_0 t12_1 t13_0) else (F_NH_decimal_abt_J36 x2 x3 x4 x5 t0_0 t0_1 t1_0 t1_1 t2_0 t3_0 t3_1 t4_0 t5_0 t5_1 t6_0 t7_0 t7_1 t8_0 t9_0 t9_1 t10_0 t11_0 t11_1 t12_0 t12_1 t13_0 1)))))
def S_NH_decimal_abt_c139 (x2 : Int32) (x3 : Int32) (x4 : Int32) (x5 : Int32) (t0_0 : Int64) (t0_1 : Int32) (t1_0 : Int32) (t1_1 : Int32) (t2_0 : (Nat → Int32)) (t3_0 : Int32) (t3_1 : Int32) (t4_0 : (Nat → Int32)) (t5_0 : Int32) (t5_1 : Int32) (t6_0 : (Nat → Int32)) (t7_0 : Int32) (t7_1 : Int32) (t8_0 : (Nat → Int32)) (t9_0 : Int32) (t9_1 : Int32) (t10_0 : (Nat → Int32)) (t11_0 : Int32) (t11_1 : Int32) (t12_0 : Int32) (t12_1 : Int32) (t13_0 : (Nat → Int32)) (lx58 : Int32) (p155 : (Int64 × Int32 × Int32 × Int32 × (Nat → Int32) × Int32 × Int32 × (Nat → Int32) × Int32 × Int32 × (Nat → Int32))) (y120 : Int64) (y121 : Int32) (y123 : Int32) (y124 : Int32) (f125 : (Nat → Int32)) (y128 : Int32) (y129 : Int32) (f130 : (Nat → Int32)) (y133 : Int32) (y134 : Int32) (f135 : (Nat → Int32)) (p194 : (Int32 × Int32 × Int32 × (Nat → Int32) × Int32 × Int32 × Int32 × Int32 × (Nat → Int32))) : Prop := if p194.1 = (0 : Int32) then (True) else (True)
def S_NH_decimal_abt_c133 (x2 : Int32) (x3 : Int32) (x4 : Int32) (x5 : Int32) (t0_0 : Int64) (t0_1 : Int32) (t1_0 : Int32) (t1_1 : Int32) (t2_0 : (Nat → Int32)) (t3_0 : Int32) (t3_1 : Int32) (t4_0 : (Nat → Int32)) (t5_0 : Int32) (t5_1 : Int32) (t6_0 : (Nat → Int32)) (t7_0 : Int32) (t7_1 : Int32) (t8_0 : (Nat → Int32)) (t9_0 : Int32) (t9_1 : Int32) (t10_0 : (Nat → Int32)) (t11_0 : Int32) (t11_1 : Int32) (t12_0 : Int32) (t12_1 : Int32) (t13_0 : (Nat → Int32)) (lx58 : Int32) (p155 : (Int64 × Int32 × Int32 × Int32 × (Nat → Int32) × Int32 × Int32 × (Nat → Int32) × Int32 × Int32 × (Nat → Int32))) : Prop := (True ∧ S_NH_keepDecimal x5 (p155.1 : Int64) (p155.2.1 : Int32) (p155.2.2.1 : Int32) (p155.2.2.2.1 : Int32) (p155.2.2.2.2.1 : (Nat → Int32)) t9_0 t9_1 t10_0 t11_0 t11_1 t12_0 t12_1 t13_0) ∧ (S_NH_decimal_abt_c139 x2 x3 x4 x5 t0_0 t0_1 t1_0 t1_1 t2_0 t3_0 t3_1 t4_0 t5_0 t5_1 t6_0 t7_0 t7_1 t8_0 t9_0 t9_1 t10_0 t11_0 t11_1 t12_0 t12_1 t13_0 lx58 p155 (p155.1 : Int64) (p155.2.1 : Int32) (p155.2.2.1 : Int32) (p155.2.2.2.1 : Int32) (p155.2.2.2.2.1 : (Nat → Int32)) (p155.2.2.2.2.2.1 : Int32) (p155.2.2.2.2.2.2.1 : Int32) (p155.2.2.2.2.2.2.2.1 : (Nat → Int32)) (p155.2.2.2.2.2.2.2.2.1 : Int32) (p155.2.2.2.2.2.2.2.2.2.1 : Int32) (p155.2.2.2.2.2.2.2.2.2.2 : (Nat → Int32)) ((F_NH_keepDecimal x5 (p155.1 : Int64) (p155.2.1 : Int32) (p155.2.2.1 : Int32) (p155.2.2.2.1 : Int32) (p155.2.2.2.2.1 : (Nat → Int32)) t9_0 t9_1 t10_0 t11_0 t11_1 t12_0 t12_1 t13_0) : (Int32 × Int32 × Int32 × (Nat → Int32) × Int32 × Int32 × Int32 × Int32 × (Nat → Int32))))
def S_NH_decimal_abt_c139_5 (x2 : Int32) (x3 : Int32) (x4 : Int32) (x5 : Int32) (t0_0 : Int64) (t0_1 : Int32) (t1_0 : Int32) (t1_1 : Int32) (t2_0 : (Nat → Int32)) (t3_0 : Int32) (t3_1 : Int32) (t4_0 : (Nat → Int32)) (t5_0 : Int32) (t5_1 : Int32) (t6_0 : (Nat → Int32)) (t7_0 : Int32) (t7_1 : Int32) (t8_0 : (Nat → Int32)) (t9_0 : Int32) (t9_1 : Int32) (t10_0 : (Nat → Int32)) (t11_0 : Int32) (t11_1 : Int32) (t12_0 : Int32) (t12_1 : Int32) (t13_0 : (Nat → Int32)) (lx58 : Int32) (p307 : (Int64 × Int32 × Int32 × Int32 × (Nat → Int32) × Int32 × Int32 × (Nat → Int32) × Int32 × Int32 × (Nat → Int32))) (y272 : Int64) (y273 : Int32) (y275 : Int32) (y276 : Int32) (f277 : (Nat → Int32)) (y280 : Int32) (y281 : Int32) (f282 : (Nat → Int32)) (y285 : Int32) (y286 : Int32) (f287 : (Nat → Int32)) (p346 : (Int32 × Int32 × Int32 × (Nat → Int32) × Int32 × Int32 × Int32 × Int32 × (Nat → Int32))) : Prop := if p346.1 = (0 : Int32) then (True) else (True)
def S_NH_decimal_abt_c133_4 (x2 : Int32) (x3 : Int32) (x4 : Int32) (x5 : Int32) (t0_0 : Int64) (t0_1 : Int32) (t1_0 : Int32) (t1_1 : Int32) (t2_0 : (Nat → Int32)) (t3_0 : Int32) (t3_1 : Int32) (t4_0 : (Nat → Int32)) (t5_0 : Int32) (t5_1 : Int32) (t6_0 : (Nat → Int32)) (t7_0 : Int32) (t7_1 : Int32) (t8_0 : (Nat → Int32)) (t9_0 : Int32) (t9_1 : Int32) (t10_0 : (Nat → Int32)) (t11_0 : Int32) (t11_1 : Int32) (t12_0 : Int32) (t12_1 : Int32) (t13_0 : (Nat → Int32)) (lx58 : Int32) (p307 : (Int64 × Int32 × Int32 × Int32 × (Nat → Int32) × Int32 × Int32 × (Nat → Int32) × Int32 × Int32 × (Nat → Int32))) : Prop := (True ∧ S_NH_keepDecimal x5 (p307.1 : Int64) (p307.2.1 : Int32) (p307.2.2.1 : Int32) (p307.2.2.2.1 : Int32) (p307.2.2.2.2.1 : (Nat → Int32)) t9_0 t9_1 t10_0 t11_0 t11_1 t12_0 t12_1 t13_0) ∧ (S_NH_decimal_abt_c139_5 x2 x3 x4 x5 t0_0 t0_1 t1_0 t1_1 t2_0 t3_0 t3_1 t4_0 t5_0 t5_1 t6_0 t7_0 t7_1 t8_0 t9_0 t9_1 t10_0 t11_0 t11_1 t12_0 t12_1 t13_0 lx58 p307 (p307.1 : Int64) (p307.2.1 : Int32) (p307.2.2.1 : Int32) (p307.2.2.2.1 : Int32) (p307.2.2.2.2.1 : (Nat → Int32)) (p307.2.2.2.2.2.1 : Int32) (p307.2.2.2.2.2.2.1 : Int32) (p307.2.2.2.2.2.2.2.1 : (Nat → Int32)) (p307.2.2.2.2.2.2.2.2.1 : Int32) (p307.2.2.2.2.2.2.2.2.2.1 : Int32) (p307.2.2.2.2.2.2.2.2.2.2 : (Nat → Int32)) ((F_NH_keepDecimal x5 (p307.1 : Int64) (p307.2.1 : Int32) (p307.2.2.1 : Int32) (p307.2.2.2.1 : Int32) (p307.2.2.2.2.1 : (Nat → Int32)) t9_0 t9_1 t10_0 t11_0 t11_1 t12_0 t12_1 t13_0) : (Int32 × Int32 × Int32 × (Nat → Int32) × Int32 × Int32 × Int32 × Int32 × (Nat → Int32))))
def S_NH_decimal_abt_c139_7 (x2 : Int32) (x3 : Int32) (x4 : Int32) (x5 : Int32) (t0_0 : Int64) (t0_1 : Int32) (t1_0 : Int32) (t1_1 : Int32) (t2_0 : (Nat → Int32)) (t3_0 : Int32) (t3_1 : Int32) (t4_0 : (Nat → Int32)) (t5_0 : Int32) (t5_1 : Int32) (t6_0 : (Nat → Int32)) (t7_0 : Int32) (t7_1 : Int32) (t8_0 : (Nat → Int32)) (t9_0 : Int32) (t9_1 : Int32) (t10_0 : (Nat → Int32)) (t11_0 : Int32) (t11_1 : Int32) (t12_0 : Int32) (t12_1 : Int32) (t13_0 : (Nat → Int32)) (lx58 : Int32) (p433 : (Int64 × Int32 × Int32 × Int32 × (Nat → Int32))) (y414 : Int64) (y415 : Int32) (y417 : Int32) (y418 : Int32) (f419 : (Nat → Int32)) (p466 : (Int32 × Int32 × Int32 × (Nat → Int32) × Int32 × Int32 × Int32 × Int32 × (Nat → Int32))) : Prop := if p466.1 = (0 : Int32) then (True) else (True)
def S_NH_decimal_abt_c100 (x2 : Int32) (x3 : Int32) (x4 : Int32) (x5 : Int32) (t0_0 : Int64) (t0_1 : Int32) (t1_0 : Int32) (t1_1 : Int32) (t2_0 : (Nat → Int32)) (t3_0 : Int32) (t3_1 : Int32) (t4_0 : (Nat → Int32)) (t5_0 : Int32) (t5_1 : Int32) (t6_0 : (Nat → Int32)) (t7_0 : Int32) (t7_1 : Int32) (t8_0 : (Nat → Int32)) (t9_0 : Int32) (t9_1 : Int32) (t10_0 : (Nat → Int32)) (t11_0 : Int32) (t11_1 : Int32) (t12_0 : Int32) (t12_1 : Int32) (t13_0 : (Nat → Int32)) (lx58 : Int32) (p433 : (Int64 × Int32 × Int32 × Int32 × (Nat → Int32))) : Prop := (True ∧ S_NH_keepDecimal x5 (p433.1 : Int64) (p433.2.1 : Int32) (p433.2.2.1 : Int32) (p433.2.2.2.1 : Int32) (p433.2.2.2.2 : (Nat → Int32)) t9_0 t9_1 t10_0 t11_0 t11_1 t12_0 t12_1 t13_0) ∧ (S_NH_decimal_abt_c139_7 x2 x3 x4 x5 t0_0 t0_1 t1_0 t1_1 t2_0 t3_0 t3_1 t4_0 t5_0 t5_1 t6_0 t7_0 t7_1 t8_0 t9_0 t9_1 t10_0 t11_0 t11_1 t12_0 t12_1 t13_0 lx58 p433 (p433.1 : Int64) (p433.2.1 : Int32) (p433.2.2.1 : Int32) (p433.2.2.2.1 : Int32) (p433.2.2.2.2 : (Nat → Int32)) ((F_NH_keepDecimal x5 (p433.1 : Int64) (p433.2.1 : Int32) (p433.2.2.1 : Int32) (p433.2.2.2.1 : Int32) (p433.2.2.2.2 : (Nat → Int32)) t9_0 t9_1 t10_0 t11_0 t11_1 t12_0 t12_1 t13_0) : (Int32 × Int32 × Int32 × (Nat → Int32) × Int32 × Int32 × Int32 × Int32 × (Nat → Int32))))
def S_NH_decimal_abt_c139_9 (x2 : Int32) (x3 : Int32) (x4 : Int32) (x5 : Int32) (t0_0 : Int64) (t0_1 : Int32) (t1_0 : Int32) (t1_1 : Int32) (t2_0 : (Nat → Int32)) (t3_0 : Int32) (t3_1 : Int32) (t4_0 : (Nat → Int32)) (t5_0 : Int32) (t5_1 : Int32) (t6_0 : (Nat → Int32)) (t7_0 : Int32) (t7_1 : Int32) (t8_0 : (Nat → Int32)) (t9_0 : Int32) (t9_1 : Int32) (t10_0 : (Nat → Int32)) (t11_0 : Int32) (t11_1 : Int32) (t12_0 : Int32) (t12_1 : Int32) (t13_0 : (Nat → Int32)) (lx58 : Int32) (p566 : (Int32 × Int64 × Int32 × Int32 × Int32 × (Nat → Int32) × Int32 × Int32 × (Nat → Int32))) (y537 : Int64) (y538 : Int32) (y540 : Int32) (y541 : Int32) (f542 : (Nat → Int32)) (y545 : Int32) (y546 : Int32) (f547 : (Nat → Int32)) (p612 : (Int32 × Int32 × Int32 × (Nat → Int32) × Int32 × Int32 × Int32 × Int32 × (Nat → Int32))) : Prop := if p612.1 = (0 : Int32) then (True) else (True)
def S_NH_decimal_abt_c78 (x2 : Int32) (x3 : Int32) (x4 : Int32) (x5 : Int32) (t0_0 : Int64) (t0_1 : Int32) (t1_0 : Int32) (t1_1 : Int32) (t2_0 : (Nat → Int32)) (t3_0 : Int32) (t3_1 : Int32) (t4_0 : (Nat → Int32)) (t5_0 : Int32) (t5_1 : Int32) (t6_0 : (Nat → Int32)) (t7_0 : Int32) (t7_1 : Int32) (t8_0 : (Nat → Int32)) (t9_0 : Int32) (t9_1 : Int32) (t10_0 : (Nat → Int32)) (t11_0 : Int32) (t11_1 : Int32) (t12_0 : Int32) (t12_1 : Int32) (t13_0 : (Nat → Int32)) (lx58 : Int32) (p566 : (Int32 × Int64 × Int32 × Int32 × Int32 × (Nat → Int32) × Int32 × Int32 × (Nat → Int32))) : Prop := if (F_NH_canHave (p566.1 : Int32)) = (0 : Int32) then ((True ∧ S_NH_keepDecimal x5 (p566.2.1 : Int64) (p566.2.2.1 : Int32) (p566.2.2.2.1 : Int32) (p566.2.2.2.2.1 : Int32) (p566.2.2.2.2.2.1 : (Nat → Int32)) t9_0 t9_1 t10_0 t11_0 t11_1 t12_0 t12_1 t13_0) ∧ (S_NH_decimal_abt_c139_9 x2 x3 x4 x5 t0_0 t0_1 t1_0 t1_1 t2_0 t3_0 t3_1 t4_0 t5_0 t5_1 t6_0 t7_0 t7_1 t8_0 t9_0 t9_1 t10_0 t11_0 t11_1 t12_0 t12_1 t13_0 lx58 p566 (p566.2.1 : Int64) (p566.2.2.1 : Int32) (p566.2.2.2.1 : Int32) (p566.2.2.2.2.1 : Int32) (p566.2.2.2.2.2.1 : (Nat → Int32)) (p566.2.2.2.2.2.2.1 : Int32) (p566.2.2.2.2.2.2.2.1 : Int32) (p566.2.2.2.2.2.2.2.2 : (Nat → Int32)) ((F_NH_keepDecimal x5 (p566.2.1 : Int64) (p566.2.2.1 : Int32) (p566.2.2.2.1 : Int32) (p566.2.2.2.2.1 : Int32) (p566.2.2.2.2.2.1 : (Nat → Int32)) t9_0 t9_1 t10_0 t11_0 t11_1 t12_0 t12_1 t13_0) : (Int32 × Int32 × Int32 × (Nat → Int32) × Int32 × Int32 × Int32 × Int32 × (Nat → Int32))))) else (True)
def S_NH_decimal_abt_c139_11 (x2 : Int32) (x3 : Int32) (x4 : Int32) (x5 : Int32) (t0_0 : Int64) (t0_1 : Int32) (t1_0 : Int32) (t1_1 : Int32) (t2_0 : (Nat → Int32)) (t3_0 : Int32) (t3_1 : Int32) (t4_0 : (Nat → Int32)) (t5_0 : Int32) (t5_1 : Int32) (t6_0 : (Nat → Int32)) (t7_0 : Int32) (t7_1 : Int32) (t8_0 : (Nat → Int32)) (t9_0 : Int32) (t9_1 : Int32) (t10_0 : (Nat → Int32)) (t11_0 : Int32) (t11_1 : Int32) (t12_0 : Int32) (t12_1 : Int32) (t13_0 : (Nat → Int32)) (lx58 : Int32) (p710 : (Int32 × Int64 × Int32 × Int32 × Int32 × (Nat → Int32) × Int32 × Int32 × (Nat → Int32))) (y681 : Int64) (y682 : Int32) (y684 : Int32) (y685 : Int32) (f686 : (Nat → Int32)) (y689 : Int32) (y690 : Int32) (f691 : (Nat → Int32)) (p756 : (Int32 × Int32 × Int32 × (Nat → Int32) × Int32 × Int32 × Int32 × Int32 × (Nat → Int32))) : Prop := if p756.1 = (0 : Int32) then (True) else (True)
def S_NH_decimal_abt_c78_10 (x2 : Int32) (x3 : Int32) (x4 : Int32) (x5 : Int32) (t0_0 : Int64) (t0_1 : Int32) (t1_0 : Int32) (t1_1 : Int32) (t2_0 : (Nat → Int32)) (t3_0 : Int32) (t3_1 : Int32) (t4_0 : (Nat → Int32)) (t5_0 : Int32) (t5_1 : Int32) (t6_0 : (Nat → Int32)) (t7_0 : Int32) (t7_1 : Int32) (t8_0 : (Nat → Int32)) (t9_0 : Int32) (t9_1 : Int32) (t10_0 : (Nat → Int32)) (t11_0 : Int32) (t11_1 : Int32) (t12_0 : Int32) (t12_1 : Int32) (t13_0 : (Nat → Int32)) (lx58 : Int32) (p710 : (Int32 × Int64 × Int32 × Int32 × Int32 × (Nat → Int32) × Int32 × Int32 × (Nat → Int32))) : Prop := if (F_NH_canHave (p710.1 : Int32)) = (0 : Int32) then ((True ∧ S_NH_keepDecimal x5 (p710.2.1 : Int64) (p710.2.2.1 : Int32) (p710.2.2.2.1 : Int32) (p710.2.2.2.2.1 : Int32) (p710.2.2.2.2.2.1 : (Nat → Int32)) t9_0 t9_1 t10_0 t11_0 t11_1 t12_0 t12_1 t13_0) ∧ (S_NH_decimal_abt_c139_11 x2 x3 x4 x5 t0_0 t0_1 t1_0 t1_1 t2_0 t3_0 t3_1 t4_0 t5_0 t5_1 t6_0 t7_0 t7_1 t8_0 t9_0 t9_1 t10_0 t11_0 t11_1 t12_0 t12_1 t13_0 lx58 p710 (p710.2.1 : Int64) (p710.2.2.1 : Int32) (p710.2.2.2.1 : Int32) (p710.2.2.2.2.1 : Int32) (p710.2.2.2.2.2.1 : (Nat → Int32)) (p710.2.2.2.2.2.2.1 : Int32) (p710.2.2.2.2.2.2.2.1 : Int32) (p710.2.2.2.2.2.2.2.2 : (Nat → Int32)) ((F_NH_keepDecimal x5 (p710.2.1 : Int64) (p710.2.2.1 : Int32) (p710.2.2.2.1 : Int32) (p710.2.2.2.2.1 : Int32) (p710.2.2.2.2.2.1 : (Nat → Int32)) t9_0 t9_1 t10_0 t11_0 t11_1 t12_0 t12_1 t13_0) : (Int32 × Int32 × Int32 × (Nat → Int32) × Int32 × Int32 × Int32 × Int32 × (Nat → Int32))))) else (True)
def S_NH_decimal_abt_J36 (x2 : Int32) (x3 : Int32) (x4 : Int32) (x5 : Int32) (t0_0 : Int64) (t0_1 : Int32) (t1_0 : Int32) (t1_1 : Int32) (t2_0 : (Nat → Int32)) (t3_0 : Int32) (t3_1 : Int32) (t4_0 : (Nat → Int32)) (t5_0 : Int32) (t5_1 : Int32) (t6_0 : (Nat → Int32)) (t7_0 : Int32) (t7_1 : Int32) (t8_0 : (Nat → Int32)) (t9_0 : Int32) (t9_1 : Int32) (t10_0 : (Nat → Int32)) (t11_0 : Int32) (t11_1 : Int32) (t12_0 : Int32) (t12_1 : Int32) (t13_0 : (Nat → Int32)) (lx58 : Int32) : Prop := if (F_NH_need lx58) = (0 : Int32) then ((0 ≤ x3.toInt) ∧ ((x3.toInt ≤ 9) ∧ ((0 ≤ x4.toInt) ∧ ((x4.toInt ≤ 9) ∧ (if (1 : Int32) < x2 then (if x2 = (2 : Int32) then (S_NH_decimal_abt_c100 x2 x3 x4 x5 t0_0 t0_1 t1_0 t1_1 t2_0 t3_0 t3_1 t4_0 t5_0 t5_1 t6_0 t7_0 t7_1 t8_0 t9_0 t9_1 t10_0 t11_0 t11_1 t12_0 t12_1 t13_0 lx58 ((F_DW_multiply (108 : Int32) (108 : Int32) t0_0 t0_1 t1_0 t1_1 t2_0 t11_0 t11_1 t12_0 t12_1 t13_0 t11_0 t11_1 t12_0 t12_1 t13_0) : (Int64 × Int32 × Int32 × Int32 × (Nat → Int32)))) else (if t12_0 ≤ (0 : Int32) then (if (F_NH_canHave (0 : Int32)) = (0 : Int32) then ((True ∧ S_DW_rest_a (108 : Int32) t0_0 t0_1 t1_0 t1_1 t2_0 t3_0 t3_1 t4_0 t5_0 t5_1 t6_0 t7_0 t7_1 t8_0 t11_0 t11_1 t12_0 t12_1 t13_0) ∧ (S_NH_decimal_abt_c133 x2 x3 x4 x5 t0_0 t0_1 t1_0 t1_1 t2_0 t3_0 t3_1 t4_0 t5_0 t5_1 t6_0 t7_0 t7_1 t8_0 t9_0 t9_1 t10_0 t11_0 t11_1 t12_0 t12_1 t13_0 lx58 ((F_DW_rest_a (108 : Int32) t0_0 t0_1 t1_0 t1_1 t2_0 t3_0 t3_1 t4_0 t5_0 t5_1 t6_0 t7_0 t7_1 t8_0 t11_0 t11_1 t12_0 t12_1 t13_0) : (Int64 × Int32 × Int32 × Int32 × (Nat → Int32) × Int32 × Int32 × (Nat → Int32) × Int32 × Int32 × (Nat → Int32))))) else (True)) else (if (F_NH_canHave (1 : Int32)) = (0 : Int32) then ((True ∧ S_DW_rest_a (108 : Int32) t0_0 t0_1 t1_0 t1_1 t2_0 t3_0 t3_1 t4_0 t5_0 t5_1 t6_0 t7_0 t7_1 t8_0 t11_0 t11_1 t12_0 t12_1 t13_0) ∧ (S_NH_decimal_abt_c133_4 x2 x3 x4 x5 t0_0 t0_1 t1_0 t1_1 t2_0 t3_0 t3_1 t4_0 t5_0 t5_1 t6_0 t7_0 t7_1 t8_0 t9_0 t9_1 t10_0 t11_0 t11_1 t12_0 t12_1 t13_0 lx58 ((F_DW_rest_a (108 : Int32) t0_0 t0_1 t1_0 t1_1 t2_0 t3_0 t3_1 t4_0 t5_0 t5_1 t6_0 t7_0 t7_1 t8_0 t11_0 t11_1 t12_0 t12_1 t13_0) : (Int64 × Int32 × Int32 × Int32 × (Nat → Int32) × Int32 × Int32 × (Nat → Int32) × Int32 × Int32 × (Nat → Int32))))) else (True)))) else (if x2 = (1 : Int32) then (S_NH_decimal_abt_c78_10 x2 x3 x4 x5 t0_0 t0_1 t1_0 t1_1 t2_0 t3_0 t3_1 t4_0 t5_0 t5_1 t6_0 t7_0 t7_1 t8_0 t9_0 t9_1 t10_0 t11_0 t11_1 t12_0 t12_1 t13_0 lx58 ((F_DW_sum (108 : Int32) (108 : Int32) (1 : Int32) t0_0 t0_1 t1_0 t1_1 t2_0 t5_0 t5_1 t6_0 t11_0 t11_1 t12_0 t12_1 t13_0 t11_0 t11_1 t12_0 t12_1 t13_0) : (Int32 × Int64 × Int32 × Int32 × Int32 × (Nat → Int32) × Int32 × Int32 × (Nat → Int32)))) else (S_NH_decimal_abt_c78 x2 x3 x4 x5 t0_0 t0_1 t1_0 t1_1 t2_0 t3_0 t3_1 t4_0 t5_0 t5_1 t6_0 t7_0 t7_1 t8_0 t9_0 t9_1 t10_0 t11_0 t11_1 t12_0 t12_1 t13_0 lx58 ((F_DW_sum (108 : Int32) (108 : Int32) (0 : Int32) t0_0 t0_1 t1_0 t1_1 t2_0 t5_0 t5_1 t6_0 t11_0 t11_1 t12_0 t12_1 t13_0 t11_0 t11_1 t12_0 t12_1 t13_0) : (Int32 × Int64 × Int32 × Int32 × Int32 × (Nat → Int32) × Int32 × Int32 × (Nat → Int32)))))))))) else (True)
def S_NH_decimal_abt_J35 (x2 : Int32) (x3 : Int32) (x4 : Int32) (x5 : Int32) (t0_0 : Int64) (t0_1 : Int32) (t1_0 : Int32) (t1_1 : Int32) (t2_0 : (Nat → Int32)) (t3_0 : Int32) (t3_1 : Int32) (t4_0 : (Nat → Int32)) (t5_0 : Int32) (t5_1 : Int32) (t6_0 : (Nat → Int32)) (t7_0 : Int32) (t7_1 : Int32) (t8_0 : (Nat → Int32)) (t9_0 : Int32) (t9_1 : Int32) (t10_0 : (Nat → Int32)) (t11_0 : Int32) (t11_1 : Int32) (t12_0 : Int32) (t12_1 : Int32) (t13_0 : (Nat → Int32)) : Prop := S_NH_decimal_abt_J36 x2 x3 x4 x5 t0_0 t0_1 t1_0 t1_1 t2_0 t3_0 t3_1 t4_0 t5_0 t5_1 t6_0 t7_0 t7_1 t8_0 t9_0 t9_1 t10_0 t11_0 t11_1 t12_0 t12_1 t13_0 0
def S_NH_decimal_abt (x2 : Int32) (x3 : Int32) (x4 : Int32) (x5 : Int32) (t0_0 : Int64) (t0_1 : Int32) (t1_0 : Int32) (t1_1 : Int32) (t2_0 : (Nat → Int32)) (t3_0 : Int32) (t3_1 : Int32) (t4_0 : (Nat → Int32)) (t5_0 : Int32) (t5_1 : Int32) (t6_0 : (Nat → Int32)) (t7_0 : Int32) (t7_1 : Int32) (t8_0 : (Nat → Int32)) (t9_0 : Int32) (t9_1 : Int32) (t10_0 : (Nat → Int32)) (t11_0 : Int32) (t11_1 : Int32) (t12_0 : Int32) (t12_1 : Int32) (t13_0 : (Nat → Int32)) : Prop := if x2 < (0 : Int32) then (S_NH_decimal_abt_J35 x2 x3 x4 x5 t0_0 t0_1 t1_0 t1_1 t2_0 t3_0 t3_1 t4_0 t5_0 t5_1 t6_0 t7_0 t7_1 t8_0 t9_0 t9_1 t10_0 t11_0 t11_1 t12_0 t12_1 t13_0) else (if (3 : Int32) < x2 then (S_NH_decimal_abt_J35 x2 x3 x4 x5 t0_0 t0_1 t1_0 t1_1 t2_0 t3_0 t3_1 t4_0 t5_0 t5_1 t6_0 t7_0 t7_1 t8_0 t9_0 t9_1 t10_0 t11_0 t11_1 t12_0 t12_1 t13_0) else (if ((F_NH_isRegister x3) : Int32) = (0 : Int32) then (S_NH_decimal_abt_J35 x2 x3 x4 x5 t0_0 t0_1 t1_0 t1_1 t2_0 t3_0 t3_1 t4_0 t5_0 t5_1 t6_0 t7_0 t7_1 t8_0 t9_0 t9_1 t10_0 t11_0 t11_1 t12_0 t12_1 t13_0) else (if ((F_NH_isRegister x4) : Int32) = (0 : Int32) then (S_NH_decimal_abt_J35 x2 x3 x4 x5 t0_0 t0_1 t1_0 t1_1 t2_0 t3_0 t3_1 t4_0 t5_0 t5_1 t6_0 t7_0 t7_1 t8_0 t9_0 t9_1 t10_0 t11_0 t11_1 t12_0 t12_1 t13_0) else (if ((F_NH_isRegister x5) : Int32) = (0 : Int32) then (S_NH_decimal_abt_J35 x2 x3 x4 x5 t0_0 t0_1 t1_0 t1_1 t2_0 t3_0 t3_1 t4_0 t5_0 t5_1 t6_0 t7_0 t7_1 t8_0 t9_0 t9_1 t10_0 t11_0 t11_1 t12_0 t12_1 t13_0) else (S_NH_decimal_abt_J36 x2 x3 x4 x5 t0_0 t0_1 t1_0 t1_1 t2_0 t3_0 t3_1 t4_0 t5_0 t5_1 t6_0 t7_0 t7_1 t8_0 t9_0 t9_1 t10_0 t11_0 t11_1 t12_0 t12_1 t13_0 1)))))
set_option maxRecDepth 100000 in
set_option maxHeartbeats 4000000 in
theorem X_NH_decimal_abt (l : Launch) (D : va_G) (g : Nat → ClassId) (q : Nat → Nat) (ws : va_W) (x2 : Int32) (x3 : Int32) (x4 : Int32) (x5 : Int32) (d3 : Nat) (hBd3 : q_isDec (nsh g q) g q d3 108) (yd3 : 66 ≤ d3) (gd3x3 : x3.toNatClampNeg < 10 → d3 = 68 + 5 * x3.toNatClampNeg) (gd3x4 : x4.toNatClampNeg < 10 → d3 = 68 + 5 * x4.toNatClampNeg) (gd3x5 : x5.toNatClampNeg < 10 → d3 = 68 + 5 * x5.toNatClampNeg) (hlt : l.stackTraces = false) (hI : q_I (nsh g q) q ws) (t0_0 : Int64) (t0_1 : Int32) (hT0 : ws[30]? = (some (q 30, .inr (5, [.ref (q 31), .long t0_0, .ref (q 9), .int t0_1])) : Option (Nat × va_E))) (t1_0 : Int32) (t1_1 : Int32) (hT1 : ws[10]? = (some (q 10, .inr (2, [.ref (q 11), .int t1_0, .int t1_1])) : Option (Nat × va_E))) (t2_0 : (Nat → Int32)) (hT2 : ws[11]? = (some (q 11, .inl (g 0, (220 : Int32).toNatClampNeg, .inl t2_0)) : Option (Nat × va_E))) (t3_0 : Int32) (t3_1 : Int32) (hT3 : ws[12]? = (some (q 12, .inr (2, [.ref (q 13), .int t3_0, .int t3_1])) : Option (Nat × va_E))) (t4_0 : (Nat → Int32)) (hT4 : ws[13]? = (some (q 13, .inl (g 0, (220 : Int32).toNatClampNeg, .inl t4_0)) : Option (Nat × va_E))) (t5_0 : Int32) (t5_1 : Int32) (hT5 : ws[22]? = (some (q 22, .inr (2, [.ref (q 23), .int t5_0, .int t5_1])) : Option (Nat × va_E))) (t6_0 : (Nat → Int32)) (hT6 : ws[23]? = (some (q 23, .inl (g 0, (220 : Int32).toNatClampNeg, .inl t6_0)) : Option (Nat × va_E))) (t7_0 : Int32) (t7_1 : Int32) (hT7 : ws[24]? = (some (q 24, .inr (2, [.ref (q 25), .int t7_0, .int t7_1])) : Option (Nat × va_E))) (t8_0 : (Nat → Int32)) (hT8 : ws[25]? = (some (q 25, .inl (g 0, (220 : Int32).toNatClampNeg, .inl t8_0)) : Option (Nat × va_E))) (t9_0 : Int32) (t9_1 : Int32) (hT9 : ws[20]? = (some (q 20, .inr (2, [.ref (q 21), .int t9_0, .int t9_1])) : Option (Nat × va_E))) (t10_0 : (Nat → Int32)) (hT10 : ws[21]? = (some (q 21, .inl (g 0, (220 : Int32).toNatClampNeg, .inl t10_0)) : Option (Nat × va_E))) (t11_0 : Int32) (t11_1 : Int32) (hT11 : ws[d3]? = (some (q d3, .inr (3, [.ref (q (d3 + 1)), .int t11_0, .int t11_1])) : Option (Nat × va_E))) (t12_0 : Int32) (t12_1 : Int32) (hT12 : ws[d3 + 1]? = (some (q (d3 + 1), .inr (2, [.ref (q (d3 + 2)), .int t12_0, .int t12_1])) : Option (Nat × va_E))) (t13_0 : (Nat → Int32)) (hT13 : ws[d3 + 2]? = (some (q (d3 + 2), .inl (g 0, (108 : Int32).toNatClampNeg, .inl t13_0)) : Option (Nat × va_E))) (hS : True ∧ S_NH_decimal_abt x2 x3 x4 x5 t0_0 t0_1 t1_0 t1_1 t2_0 t3_0 t3_1 t4_0 t5_0 t5_1 t6_0 t7_0 t7_1 t8_0 t9_0 t9_1 t10_0 t11_0 t11_1 t12_0 t12_1 t13_0) : ∀ sz, q_Mx l y_NH_decimal prog_1_method_11_code 7 none 9 3 18 D g [.ref (q 0), .int x2, .int x3, .int x4, .int x5] ws sz (va_Qv (fun u => q_I (nsh g q) q u ∧ q_un ws u [10, 11, 12, 13, 20, 21, 22, 23, 30, d3, d3 + 1, d3 + 2] ∧ ∃ (u0_0 : Int64) (u0_1 : Int32) (u1_0 : Int32) (u1_1 : Int32) (u2_0 : (Nat → Int32)) (u3_0 : Int32) (u3_1 : Int32) (u4_0 : (Nat → Int32)) (u5_0 : Int32) (u5_1 : Int32) (u6_0 : (Nat → Int32)) (u9_0 : Int32) (u9_1 : Int32) (u10_0 : (Nat → Int32)) (u11_0 : Int32) (u11_1 : Int32) (u12_0 : Int32) (u12_1 : Int32) (u13_0 : (Nat → Int32)), u[30]? = (some (q 30, .inr (5, [.ref (q 31), .long u0_0, .ref (q 9), .int u0_1])) : Option (Nat × va_E)) ∧ u[10]? = (some (q 10, .inr (2, [.ref (q 11), .int u1_0, .int u1_1])) : Option (Nat × va_E)) ∧ u[11]? = (some (q 11, .inl (g 0, (220 : Int32).toNatClampNeg, .inl u2_0)) : Option (Nat × va_E)) ∧ u[12]? = (some (q 12, .inr (2, [.ref (q 13), .int u3_0, .int u3_1])) : Option (Nat × va_E)) ∧ u[13]? = (some (q 13, .inl (g 0, (220 : Int32).toNatClampNeg, .inl u4_0)) : Option (Nat × va_E)) ∧ u[22]? = (some (q 22, .inr (2, [.ref (q 23), .int u5_0, .int u5_1])) : Option (Nat × va_E)) ∧ u[23]? = (some (q 23, .inl (g 0, (220 : Int32).toNatClampNeg, .inl u6_0)) : Option (Nat × va_E)) ∧ u[20]? = (some (q 20, .inr (2, [.ref (q 21), .int u9_0, .int u9_1])) : Option (Nat × va_E)) ∧ u[21]? = (some (q 21, .inl (g 0, (220 : Int32).toNatClampNeg, .inl u10_0)) : Option (Nat × va_E)) ∧ u[d3]? = (some (q d3, .inr (3, [.ref (q (d3 + 1)), .int u11_0, .int u11_1])) : Option (Nat × va_E)) ∧ u[d3 + 1]? = (some (q (d3 + 1), .inr (2, [.ref (q (d3 + 2)), .int u12_0, .int u12_1])) : Option (Nat × va_E)) ∧ u[d3 + 2]? = (some (q (d3 + 2), .inl (g 0, (108 : Int32).toNatClampNeg, .inl u13_0)) : Option (Nat × va_E)) ∧ (0 ≤ u0_0.toInt + 20000) ∧ (u0_0.toInt ≤ 20000) ∧ (0 ≤ u0_1.toInt) ∧ (u0_1.toInt ≤ 1) ∧ (0 ≤ u1_0.toInt) ∧ (u1_0.toInt ≤ 220) ∧ (0 ≤ u1_1.toInt) ∧ (u1_1.toInt ≤ 1) ∧ (0 ≤ u3_0.toInt) ∧ (u3_0.toInt ≤ 220) ∧ (0 ≤ u3_1.toInt) ∧ (u3_1.toInt ≤ 1) ∧ (0 ≤ u5_0.toInt) ∧ (u5_0.toInt ≤ 220) ∧ (0 ≤ u5_1.toInt) ∧ (u5_1.toInt ≤ 2) ∧ (0 ≤ u9_0.toInt) ∧ (u9_0.toInt ≤ 220) ∧ (0 ≤ u9_1.toInt) ∧ (u9_1.toInt ≤ 1) ∧ (0 ≤ u11_0.toInt + 10000) ∧ (u11_0.toInt ≤ 10000) ∧ (1 ≤ u11_1.toInt) ∧ (u11_1.toInt ≤ 1000) ∧ (0 ≤ u12_0.toInt) ∧ (u12_0.toInt ≤ 108) ∧ (0 ≤ u12_1.toInt) ∧ (u12_1.toInt ≤ 1) ∧ (x3.toInt ≤ u0_0.toInt + 20009) ∧ (u0_0.toInt ≤ x3.toInt + 20000) ∧ (x4.toInt ≤ u0_0.toInt + 20009) ∧ (u0_0.toInt ≤ x4.toInt + 20000) ∧ (t11_0.toInt ≤ u0_0.toInt + 10000) ∧ (u0_0.toInt ≤ t11_0.toInt + 20000) ∧ (x3.toInt ≤ u0_1.toInt + 9) ∧ (u0_1.toInt ≤ x3.toInt + 1) ∧ (x4.toInt ≤ u0_1.toInt + 9) ∧ (u0_1.toInt ≤ x4.toInt + 1) ∧ (t0_1.toInt ≤ u0_1.toInt) ∧ (u0_1.toInt ≤ t0_1.toInt) ∧ (x3.toInt ≤ u1_0.toInt + 9) ∧ (u1_0.toInt ≤ x3.toInt + 220) ∧ (x4.toInt ≤ u1_0.toInt + 9) ∧ (u1_0.toInt ≤ x4.toInt + 220) ∧ (x3.toInt ≤ u1_1.toInt + 9) ∧ (u1_1.toInt ≤ x3.toInt + 1) ∧ (x4.toInt ≤ u1_1.toInt + 9) ∧ (u1_1.toInt ≤ x4.toInt + 1) ∧ (x3.toInt ≤ u3_0.toInt + 9) ∧ (u3_0.toInt ≤ x3.toInt + 220) ∧ (x4.toInt ≤ u3_0.toInt + 9) ∧ (u3_0.toInt ≤ x4.toInt + 220) ∧ (x3.toInt ≤ u3_1.toInt + 9) ∧ (u3_1.toInt ≤ x3.toInt + 1) ∧ (x4.toInt ≤ u3_1.toInt + 9) ∧ (u3_1.toInt ≤ x4.toInt + 1) ∧ (u3_1.toInt ≤ t3_1.toInt) ∧ (x3.toInt ≤ u5_0.toInt + 9) ∧ (u5_0.toInt ≤ x3.toInt + 220) ∧ (x4.toInt ≤ u5_0.toInt + 9) ∧ (u5_0.toInt ≤ x4.toInt + 220) ∧ (x3.toInt ≤ u5_1.toInt + 9) ∧ (x4.toInt ≤ u5_1.toInt + 9) ∧ (u5_1.toInt ≤ t12_1.toInt + 1) ∧ (x3.toInt ≤ u9_0.toInt + 9) ∧ (u9_0.toInt ≤ x3.toInt + 220) ∧ (x4.toInt ≤ u9_0.toInt + 9) ∧ (u9_0.toInt ≤ x4.toInt + 220) ∧ (x5.toInt ≤ u9_0.toInt + 9) ∧ (u9_0.toInt ≤ x5.toInt + 220) ∧ (x3.toInt ≤ u9_1.toInt + 9) ∧ (u9_1.toInt ≤ x3.toInt + 1) ∧ (x4.toInt ≤ u9_1.toInt + 9) ∧ (u9_1.toInt ≤ x4.toInt + 1) ∧ (x5.toInt ≤ u9_1.toInt + 9) ∧ (u9_1.toInt ≤ x5.toInt + 1) ∧ (x3.toInt ≤ u11_0.toInt + 10009) ∧ (u11_0.toInt ≤ x3.toInt + 10000) ∧ (x4.toInt ≤ u11_0.toInt + 10009) ∧ (u11_0.toInt ≤ x4.toInt + 10000) ∧ (x5.toInt ≤ u11_0.toInt + 10009) ∧ (u11_0.toInt ≤ x5.toInt + 10000) ∧ (x3.toInt ≤ u11_1.toInt + 8) ∧ (u11_1.toInt ≤ x3.toInt + 1000) ∧ (x4.toInt ≤ u11_1.toInt + 8) ∧ (u11_1.toInt ≤ x4.toInt + 1000) ∧ (x5.toInt ≤ u11_1.toInt + 8) ∧ (u11_1.toInt ≤ x5.toInt + 1000) ∧ (x3.toInt ≤ u12_0.toInt + 9) ∧ (u12_0.toInt ≤ x3.toInt + 108) ∧ (x4.toInt ≤ u12_0.toInt + 9) ∧ (u12_0.toInt ≤ x4.toInt + 108) ∧ (x5.toInt ≤ u12_0.toInt + 9) ∧ (u12_0.toInt ≤ x5.toInt + 108) ∧ (x3.toInt ≤ u12_1.toInt + 9) ∧ (u12_1.toInt ≤ x3.toInt + 1) ∧ (x4.toInt ≤ u12_1.toInt + 9) ∧ (u12_1.toInt ≤ x4.toInt + 1) ∧ (x5.toInt ≤ u12_1.toInt + 9) ∧ (u12_1.toInt ≤ x5.toInt + 1) ∧ (u5_1.toInt ≤ u0_0.toInt + 20001) ∧ (u5_1.toInt ≤ u1_1.toInt + 1) ∧ ((0 : Int32), u0_0, u0_1, u1_0, u1_1, u2_0, u3_0, u3_1, u4_0, u5_0, u5_1, u6_0, u9_0, u9_1, u10_0, u11_0, u11_1, u12_0, u12_1, u13_0) = (F_NH_decimal_abt x2 x3 x4 x5 t0_0 t0_1 t1_0 t1_1 t2_0 t3_0 t3_1 t4_0 t5_0 t5_1 t6_0 t7_0 t7_1 t8_0 t9_0 t9_1 t10_0 t11_0 t11_1 t12_0 t12_1 t13_0)) (q_B D g (va_A ws sz)) (va_A ws sz)) (fun E u => ∃ c : Int32, E = qE c ∧ c ≠ 0 ∧ q_I (nsh g q) q u ∧ q_un ws u [10, 11, 12, 13, 20, 21, 22, 23, 30, d3, d3 + 1, d3 + 2] ∧ ∃ (u0_0 : Int64) (u0_1 : Int32) (u1_0 : Int32) (u1_1 : Int32) (u2_0 : (Nat → Int32)) (u3_0 : Int32) (u3_1 : Int32) (u4_0 : (Nat → Int32)) (u5_0 : Int32) (u5_1 : Int32) (u6_0 : (Nat → Int32)) (u9_0 : Int32) (u9_1 : Int32) (u10_0 : (Nat → Int32)) (u11_0 : Int32) (u11_1 : Int32) (u12_0 : Int32) (u12_1 : Int32) (u13_0 : (Nat → Int32)), u[30]? = (some (q 30, .inr (5, [.ref (q 31), .long u0_0, .ref (q 9), .int u0_1])) : Option (Nat × va_E)) ∧ u[10]? = (some (q 10, .inr (2, [.ref (q 11), .int u1_0, .int u1_1])) : Option (Nat × va_E)) ∧ u[11]? = (some (q 11, .inl (g 0, (220 : Int32).toNatClampNeg, .inl u2_0)) : Option (Nat × va_E)) ∧ u[12]? = (some (q 12, .inr (2, [.ref (q 13), .int u3_0, .int u3_1])) : Option (Nat × va_E)) ∧ u[13]? = (some (q 13, .inl (g 0, (220 : Int32).toNatClampNeg, .inl u4_0)) : Option (Nat × va_E)) ∧ u[22]? = (some (q 22, .inr (2, [.ref (q 23), .int u5_0, .int u5_1])) : Option (Nat × va_E)) ∧ u[23]? = (some (q 23, .inl (g 0, (220 : Int32).toNatClampNeg, .inl u6_0)) : Option (Nat × va_E)) ∧ u[20]? = (some (q 20, .inr (2, [.ref (q 21), .int u9_0, .int u9_1])) : Option (Nat × va_E)) ∧ u[21]? = (some (q 21, .inl (g 0, (220 : Int32).toNatClampNeg, .inl u10_0)) : Option (Nat × va_E)) ∧ u[d3]? = (some (q d3, .inr (3, [.ref (q (d3 + 1)), .int u11_0, .int u11_1])) : Option (Nat × va_E)) ∧ u[d3 + 1]? = (some (q (d3 + 1), .inr (2, [.ref (q (d3 + 2)), .int u12_0, .int u12_1])) : Option (Nat × va_E)) ∧ u[d3 + 2]? = (some (q (d3 + 2), .inl (g 0, (108 : Int32).toNatClampNeg, .inl u13_0)) : Option (Nat × va_E)) ∧ (c, u0_0, u0_1, u1_0, u1_1, u2_0, u3_0, u3_1, u4_0, u5_0, u5_1, u6_0, u9_0, u9_1, u10_0, u11_0, u11_1, u12_0, u12_1, u13_0) = (F_NH_decimal_abt x2 x3 x4 x5 t0_0 t0_1 t1_0 t1_1 t2_0 t3_0 t3_1 t4_0 t5_0 t5_1 t6_0 t7_0 t7_1 t8_0 t9_0 t9_1 t10_0 t11_0 t11_1 t12_0 t12_1 t13_0)) := by
  intro sz
  refine q_intoX (by decide) (Nat.le_of_ble_eq_true rfl) ?_
  intro p e s m below meth c ls hsz C0 V hno hl
  have hx := C0.1
  have hb := C0.2.1
  have btt0_1 := n_w30 hI hT0
  replace btt0_1 : q_F (0 ≤ t0_1.toInt ∧ t0_1.toInt ≤ 1) := btt0_1
  have btt1_1 := (q_bigW hI (n_b10 g q) hT1).2
  clear btt1_1
  obtain ⟨btt3_0, btt3_1⟩ := q_bigW hI (n_b12 g q) hT3
  replace btt3_0 : q_F (0 ≤ t3_0.toInt ∧ t3_0.toInt ≤ 220) := btt3_0
  replace btt3_1 : q_F (0 ≤ t3_1.toInt ∧ t3_1.toInt ≤ 1) := btt3_1
  obtain ⟨btt5_0, btt5_1⟩ := q_bigW hI (n_b22 g q) hT5
  replace btt5_0 : q_F (0 ≤ t5_0.toInt ∧ t5_0.toInt ≤ 220) := btt5_0
  replace btt5_1 : q_F (0 ≤ t5_1.toInt ∧ t5_1.toInt ≤ 1) := btt5_1
  have btt7_1 := (q_bigW hI (n_b24 g q) hT7).2
  clear btt7_1
  have btt9_1 := (q_bigW hI (n_b20 g q) hT9).2
  clear btt9_1
  have btt11_0 := (n_deW hI hBd3 hT11).1
  replace btt11_0 : q_F (-10000 ≤ t11_0.toInt ∧ t11_0.toInt ≤ 10000) := btt11_0
  have btt12_1 := (q_bigW hI hBd3.2 hT12).2
  replace btt12_1 : q_F (0 ≤ t12_1.toInt ∧ t12_1.toInt ≤ 1) := btt12_1
  have hF : q_un ws ws [10, 11, 12, 13, 20, 21, 22, 23, 30, d3, d3 + 1, d3 + 2] := q_u0
  have hl : lv_has ls 7 [(0, .ref (q 0)), (1, .int x2), (2, .int x3), (3, .int x4), (4, .int x5)] := hl
  refine lv_iload_n hx hb d_1_11_0 rfl (lv_at hl 1 rfl) ?_
  refine q_join (X := Int32) (fun z H locs ls _ => q_F (0 ≤ z.toInt) ∧ q_F (z.toInt ≤ 1) ∧ q_Wd D g (va_A ws sz) s ws H locs ∧ lv_has ls 7 [(0, .ref (q 0)), (1, .int x2), (2, .int x3), (3, .int x4), (4, .int x5)] ∧ F_NH_decimal_abt_J36 x2 x3 x4 x5 t0_0 t0_1 t1_0 t1_1 t2_0 t3_0 t3_1 t4_0 t5_0 t5_1 t6_0 t7_0 t7_1 t8_0 t9_0 t9_1 t10_0 t11_0 t11_1 t12_0 t12_1 t13_0 z = (F_NH_decimal_abt x2 x3 x4 x5 t0_0 t0_1 t1_0 t1_1 t2_0 t3_0 t3_1 t4_0 t5_0 t5_1 t6_0 t7_0 t7_1 t8_0 t9_0 t9_1 t10_0 t11_0 t11_1 t12_0 t12_1 t13_0) ∧ True ∧ S_NH_decimal_abt_J36 x2 x3 x4 x5 t0_0 t0_1 t1_0 t1_1 t2_0 t3_0 t3_1 t4_0 t5_0 t5_1 t6_0 t7_0 t7_1 t8_0 t9_0 t9_1 t10_0 t11_0 t11_1 t12_0 t12_1 t13_0 z) (fun z => [.int z]) 36 0 0 ?_ ?_
  ·
    rintro lx58 H locs ls _ hZ9
    obtain ⟨i74, hZ9⟩ := hZ9
    obtain ⟨i75, hZ9⟩ := hZ9
    obtain ⟨V, hZ9⟩ := hZ9
    obtain ⟨hl, hZ9⟩ := hZ9
    obtain ⟨hR76, hS77⟩ := hZ9
    replace i74 : q_F (0 ≤ lx58.toInt) := i74
    replace i75 : q_F (lx58.toInt ≤ 1) := i75
    replace hl : lv_has ls 7 [(0, .ref (q 0)), (1, .int x2), (2, .int x3), (3, .int x4), (4, .int x5)] := hl
    refine q_goxv V (q_runSX (As := [.int lx58]) (rest := []) (d := 7) (mc := 1) (ms := 6) C0 V rfl LS_NH_104 (X_NH_need l D g q ws  lx58 hlt hI  ⟨(by first | with_reducible exact q_fe i74 | (have t1 : 0 ≤ lx58.toInt := i74; omega)), (by first | with_reducible exact q_fe i75 | (have t1 : lx58.toInt ≤ 1 := i75; omega))⟩ _) rfl hl.1 rfl (Nat.le_of_ble_eq_true rfl) ⟨by decide, by decide⟩ ⟨Nat.le_of_ble_eq_true rfl, Nat.le_of_ble_eq_true rfl⟩ d_1_11_36) (fun qx Ex ce u81 H locs hp82 V hce hcv hcl => ?_) (fun u81 H locs hp82 V => ?_)
    ·
      obtain ⟨cx84, he85, hc86, rfl, hE83⟩ := hp82
      have c87 : ¬ (F_NH_need lx58) = (0 : Int32) := fun z => hc86 (((hE83) : cx84 = _).trans z)
      exact q_outT hno C0 V (⟨(F_NH_need lx58), (he85.trans (congrArg qE ((hE83) : cx84 = _))), c87, hI, hF, t0_0, t0_1, t1_0, t1_1, t2_0, t3_0, t3_1, t4_0, t5_0, t5_1, t6_0, t9_0, t9_1, t10_0, t11_0, t11_1, t12_0, t12_1, t13_0, hT0, hT1, hT2, hT3, hT4, hT5, hT6, hT9, hT10, hT11, hT12, hT13, (show ((F_NH_need lx58), t0_0, t0_1, t1_0, t1_1, t2_0, t3_0, t3_1, t4_0, t5_0, t5_1, t6_0, t9_0, t9_1, t10_0, t11_0, t11_1, t12_0, t12_1, t13_0) = (F_NH_decimal_abt x2 x3 x4 x5 t0_0 t0_1 t1_0 t1_1 t2_0 t3_0 t3_1 t4_0 t5_0 t5_1 t6_0 t7_0 t7_1 t8_0 t9_0 t9_1 t10_0 t11_0 t11_1 t12_0 t12_1 t13_0) from Eq.trans (by rw [F_NH_decimal_abt_J36.eq_1, if_neg c87]) hR76)⟩) hce hcv hcl (Nat.le_of_ble_eq_true rfl) (Nat.le_of_ble_eq_true rfl)
    ·
      obtain ⟨rfl, hE88⟩ := hp82
      have c87 : (F_NH_need lx58) = (0 : Int32) := ((hE88) : (0 : Int32) = _).symm
      refine lv_aload_n hx hb d_1_11_39 rfl (lv_at hl 0 rfl) ?_
      have hO90 := n_o0 hI
      refine q_get (ci := 0) (j := 3) (v := .ref (q 6)) C0 V i_NH rfl rfl hO90 (by decide) w_427 rfl d_1_11_40 ?_
      refine lv_iload_n hx hb d_1_11_43 rfl (lv_at hl 2 rfl) ?_
      have hX91 := n_fx hI (n_s6 g q)
      have ob92 : q_F (0 ≤ x3.toInt) := (by have h := hS77; rw [S_NH_decimal_abt_J36.eq_1] at h; rw [if_pos c87] at h; exact h.2.1)
      have ob93 : q_F (x3.toInt ≤ 9) := (by have h := hS77; rw [S_NH_decimal_abt_J36.eq_1] at h; rw [if_pos c87] at h; replace h := q_s2 h; exact h.2.1)
      have hj94 : x3.toNatClampNeg < 10 := by have z := q_clI (i := x3) (x := x3.toInt) rfl (by first | with_reducible exact q_fe ob92 | (have t1 : 0 ≤ x3.toInt := ob92; omega)); have t1 : 0 ≤ x3.toInt := ob92; have t2 : x3.toInt ≤ 9 := ob93; omega
      have hq95 := gd3x3 hj94
      refine q_aald (t := 5) (q := q d3) C0 V hX91 rfl (q_ix (x := x3.toInt) rfl (by first | with_reducible exact q_fe ob92 | (have t1 : 0 ≤ x3.toInt := ob92; omega)) (by have t1 : 0 ≤ x3.toInt := ob92; have t2 : x3.toInt ≤ 9 := ob93; omega)) (by rw [hq95]; exact n_fdv hj94) d_1_11_44 ?_
      refine lv_astore (lv' := [(5, .ref (q d3)), (0, .ref (q 0)), (1, .int x2), (2, .int x3), (3, .int x4), (4, .int x5)]) hx hb d_1_11_45 hl (by decide) rfl (fun ls hl => ?_)
      refine lv_aload_n hx hb d_1_11_47 rfl (lv_at hl 1 rfl) ?_
      refine q_get (ci := 0) (j := 3) (v := .ref (q 6)) C0 V i_NH rfl rfl hO90 (by decide) w_427 rfl d_1_11_48 ?_
      refine lv_iload_n hx hb d_1_11_51 rfl (lv_at hl 4 rfl) ?_
      have hX96 := n_fx hI (n_s6 g q)
      have ob97 : q_F (0 ≤ x4.toInt) := (by have h := hS77; rw [S_NH_decimal_abt_J36.eq_1] at h; rw [if_pos c87] at h; replace h := q_s2 h; replace h := q_s2 h; exact h.2.1)
      have ob98 : q_F (x4.toInt ≤ 9) := (by have h := hS77; rw [S_NH_decimal_abt_J36.eq_1] at h; rw [if_pos c87] at h; replace h := q_s2 h; replace h := q_s2 h; replace h := q_s2 h; exact h.2.1)
      have hj99 : x4.toNatClampNeg < 10 := by have z := q_clI (i := x4) (x := x4.toInt) rfl (by first | with_reducible exact q_fe ob97 | (have t1 : 0 ≤ x4.toInt := ob97; omega)); have t1 : 0 ≤ x4.toInt := ob97; have t2 : x4.toInt ≤ 9 := ob98; omega
      have hq100 := gd3x4 hj99
      refine q_aald (t := 5) (q := q d3) C0 V hX96 rfl (q_ix (x := x4.toInt) rfl (by first | with_reducible exact q_fe ob97 | (have t1 : 0 ≤ x4.toInt := ob97; omega)) (by have t1 : 0 ≤ x4.toInt := ob97; have t2 : x4.toInt ≤ 9 := ob98; omega)) (by rw [hq100]; exact n_fdv hj99) d_1_11_52 ?_
      refine lv_astore (lv' := [(6, .ref (q d3)), (5, .ref (q d3)), (0, .ref (q 0)), (1, .int x2), (2, .int x3), (3, .int x4), (4, .int x5)]) hx hb d_1_11_53 hl (by decide) rfl (fun ls hl => ?_)
      refine lv_iload_n hx hb d_1_11_55 rfl (lv_at hl 3 rfl) ?_
      refine lv_iconst (v := 1) hx hb d_1_11_56 (by decide) ?_
      refine lv_icmp_gt (tgt := 87) hx hb d_1_11_57 (by decide) (fun c101 => ?_) (fun c101 => ?_)
      ·
        refine lv_iload_n hx hb d_1_11_87 rfl (lv_at hl 3 rfl) ?_
        refine lv_iconst (v := 2) hx hb d_1_11_88 (by decide) ?_
        refine lv_icmp_ne (tgt := 106) hx hb d_1_11_89 (by decide) (fun c103 => ?_) (fun c103 => ?_)
        ·
          refine lv_aload hx hb d_1_11_106 (lv_at hl 0 rfl) ?_
          refine q_get (ci := 3) (j := 0) (v := .ref (q (d3 + 1))) C0 V i_Dec rfl rfl hT11 (by decide) w_174 rfl d_1_11_108 ?_
          refine q_get (ci := 2) (j := 1) (v := .int t12_0) C0 V i_Big rfl rfl hT12 (by decide) w_91 rfl d_1_11_111 ?_
          refine lv_if_le (tgt := 121) hx hb d_1_11_114 (by decide) (fun c105 => ?_) (fun c105 => ?_)
          ·
            refine lv_iconst (v := 0) hx hb d_1_11_121 (by decide) ?_
            refine q_goxv V (q_runSX (As := [.int 0]) (rest := []) (d := 7) (mc := 1) (ms := 6) C0 V rfl LS_NH_138 (X_NH_canHave l D g q ws  0 hlt hI  ⟨(by have y0 : (0 : Int32).toInt = 0 := rfl; omega), (by have y0 : (0 : Int32).toInt = 0 := rfl; omega)⟩ _) rfl hl.1 rfl (Nat.le_of_ble_eq_true rfl) ⟨by decide, by decide⟩ ⟨Nat.le_of_ble_eq_true rfl, Nat.le_of_ble_eq_true rfl⟩ d_1_11_122) (fun qx Ex ce u107 H locs hp108 V hce hcv hcl => ?_) (fun u107 H locs hp108 V => ?_)
            ·
              obtain ⟨cx110, he111, hc112, rfl, hE109⟩ := hp108
              have c113 : ¬ (F_NH_canHave (0 : Int32)) = (0 : Int32) := fun z => hc112 (((hE109) : cx110 = _).trans z)
              exact q_outT hno C0 V (⟨(F_NH_canHave (0 : Int32)), (he111.trans (congrArg qE ((hE109) : cx110 = _))), c113, hI, hF, t0_0, t0_1, t1_0, t1_1, t2_0, t3_0, t3_1, t4_0, t5_0, t5_1, t6_0, t9_0, t9_1, t10_0, t11_0, t11_1, t12_0, t12_1, t13_0, hT0, hT1, hT2, hT3, hT4, hT5, hT6, hT9, hT10, hT11, hT12, hT13, (show ((F_NH_canHave (0 : Int32)), t0_0, t0_1, t1_0, t1_1, t2_0, t3_0, t3_1, t4_0, t5_0, t5_1, t6_0, t9_0, t9_1, t10_0, t11_0, t11_1, t12_0, t12_1, t13_0) = (F_NH_decimal_abt x2 x3 x4 x5 t0_0 t0_1 t1_0 t1_1 t2_0 t3_0 t3_1 t4_0 t5_0 t5_1 t6_0 t7_0 t7_1 t8_0 t9_0 t9_1 t10_0 t11_0 t11_1 t12_0 t12_1 t13_0) from Eq.trans (by rw [F_NH_decimal_abt_J36.eq_1, if_pos c87, if_pos c101, if_neg c103, if_pos c105, if_neg c113]) hR76)⟩) hce hcv hcl (Nat.le_of_ble_eq_true rfl) (Nat.le_of_ble_eq_true rfl)
            ·
              obtain ⟨rfl, hE114⟩ := hp108
              have c113 : (F_NH_canHave (0 : Int32)) = (0 : Int32) := ((hE114) : (0 : Int32) = _).symm
              refine lv_aload_n hx hb d_1_11_125 rfl (lv_at hl 2 rfl) ?_
              refine q_get (ci := 0) (j := 7) (v := .ref (q 30)) C0 V i_NH rfl rfl hO90 (by decide) w_431 rfl d_1_11_126 ?_
              refine lv_aload hx hb d_1_11_129 (lv_at hl 1 rfl) ?_
              refine lv_aload hx hb d_1_11_131 (lv_at hl 0 rfl) ?_
              have ob116 : True ∧ S_DW_rest_a (108 : Int32) t0_0 t0_1 t1_0 t1_1 t2_0 t3_0 t3_1 t4_0 t5_0 t5_1 t6_0 t7_0 t7_1 t8_0 t11_0 t11_1 t12_0 t12_1 t13_0 := (by have h := hS77; rw [S_NH_decimal_abt_J36.eq_1] at h; rw [if_pos c87] at h; replace h := q_s2 h; replace h := q_s2 h; replace h := q_s2 h; replace h := q_s2 h; rw [if_pos c101] at h; rw [if_neg c103] at h; rw [if_pos c105] at h; rw [if_pos c113] at h; with_reducible exact h.2.1)
              refine q_gov V (q_runV (As := [.ref (q d3), .ref (q d3)]) (rest := []) (d := 5) (mc := 0) (ms := 0) (ci := 5) C0 V rfl LV_NH_278 (X_DW_rest_a l D g q ws d3 108 hBd3 (Or.inr yd3)  (by have z0 := yd3; omega) (by have z0 := yd3; omega) (by have z0 := yd3; omega) (by have z0 := yd3; omega) (by have z0 := yd3; omega) (by have z0 := yd3; omega) (by have z0 := yd3; omega) (by have z0 := yd3; omega) (by have z0 := yd3; omega) (by have z0 := yd3; omega) (by have z0 := yd3; omega) (by have z0 := yd3; omega) (by have z0 := yd3; omega) (by have z0 := yd3; omega) (by have z0 := yd3; omega) (by have z0 := yd3; omega) hI t0_0 t0_1 hT0 t1_0 t1_1 hT1 t2_0 hT2 t3_0 t3_1 hT3 t4_0 hT4 t5_0 t5_1 hT5 t6_0 hT6 t7_0 t7_1 hT7 t8_0 hT8 t11_0 t11_1 hT11 t12_0 t12_1 hT12 t13_0 hT13 ob116 _) rfl rfl hT0 rfl hl.1 rfl (Nat.le_of_ble_eq_true rfl) ⟨by decide, by decide⟩ ⟨Nat.le_of_ble_eq_true rfl, Nat.le_of_ble_eq_true rfl⟩ d_1_11_133) (fun u117 H locs hp118 V => ?_)
              obtain ⟨hI, hZ9⟩ := hp118
              obtain ⟨hu154, hZ9⟩ := hZ9
              obtain ⟨y120, hZ9⟩ := hZ9
              obtain ⟨y121, hZ9⟩ := hZ9
              obtain ⟨y123, hZ9⟩ := hZ9
              obtain ⟨y124, hZ9⟩ := hZ9
              obtain ⟨f125, hZ9⟩ := hZ9
              obtain ⟨y128, hZ9⟩ := hZ9
              obtain ⟨y129, hZ9⟩ := hZ9
              obtain ⟨f130, hZ9⟩ := hZ9
              obtain ⟨y133, hZ9⟩ := hZ9
              obtain ⟨y134, hZ9⟩ := hZ9
              obtain ⟨f135, hZ9⟩ := hZ9
              obtain ⟨hO119, hZ9⟩ := hZ9
              obtain ⟨hO122, hZ9⟩ := hZ9
              obtain ⟨hA126, hZ9⟩ := hZ9
              obtain ⟨hO127, hZ9⟩ := hZ9
              obtain ⟨hA131, hZ9⟩ := hZ9
              obtain ⟨hO132, hZ9⟩ := hZ9
              obtain ⟨hA136, hZ9⟩ := hZ9
              obtain ⟨b137, hZ9⟩ := hZ9
              obtain ⟨b138, hZ9⟩ := hZ9
              obtain ⟨b139, hZ9⟩ := hZ9
              obtain ⟨b140, hZ9⟩ := hZ9
              obtain ⟨b141, hZ9⟩ := hZ9
              obtain ⟨b142, hZ9⟩ := hZ9
              obtain ⟨b143, hZ9⟩ := hZ9
              obtain ⟨b144, hZ9⟩ := hZ9
              obtain ⟨b145, hZ9⟩ := hZ9
              obtain ⟨b146, hZ9⟩ := hZ9
              obtain ⟨b147, hZ9⟩ := hZ9
              obtain ⟨b148, hZ9⟩ := hZ9
              obtain ⟨b149, hZ9⟩ := hZ9
              obtain ⟨b150, hZ9⟩ := hZ9
              obtain ⟨b151, hZ9⟩ := hZ9
              obtain ⟨b152, hE153⟩ := hZ9
              replace hO119 : u117[30]? = (some (q 30, .inr (5, [.ref (q 31), .long y120, .ref (q 9), .int y121])) : Option (Nat × va_E)) := hO119
              replace hO122 : u117[10]? = (some (q 10, .inr (2, [.ref (q 11), .int y123, .int y124])) : Option (Nat × va_E)) := hO122
              replace hA126 : u117[11]? = (some (q 11, .inl (g 0, (220 : Int32).toNatClampNeg, .inl f125)) : Option (Nat × va_E)) := hA126
              replace hO127 : u117[12]? = (some (q 12, .inr (2, [.ref (q 13), .int y128, .int y129])) : Option (Nat × va_E)) := hO127
              replace hA131 : u117[13]? = (some (q 13, .inl (g 0, (220 : Int32).toNatClampNeg, .inl f130)) : Option (Nat × va_E)) := hA131
              replace hO132 : u117[22]? = (some (q 22, .inr (2, [.ref (q 23), .int y133, .int y134])) : Option (Nat × va_E)) := hO132
              replace hA136 : u117[23]? = (some (q 23, .inl (g 0, (220 : Int32).toNatClampNeg, .inl f135)) : Option (Nat × va_E)) := hA136
              obtain ⟨p155, e156⟩ : ∃ z, z = (F_DW_rest_a (108 : Int32) t0_0 t0_1 t1_0 t1_1 t2_0 t3_0 t3_1 t4_0 t5_0 t5_1 t6_0 t7_0 t7_1 t8_0 t11_0 t11_1 t12_0 t12_1 t13_0) := ⟨_, rfl⟩
              have e157 : y120 = p155.1 := congrArg (fun z => z.1) (hE153.trans e156.symm)
              have e158 : y121 = p155.2.1 := congrArg (fun z => z.2.1) (hE153.trans e156.symm)
              have e159 : y123 = p155.2.2.1 := congrArg (fun z => z.2.2.1) (hE153.trans e156.symm)
              have e160 : y124 = p155.2.2.2.1 := congrArg (fun z => z.2.2.2.1) (hE153.trans e156.symm)
              have e161 : f125 = p155.2.2.2.2.1 := congrArg (fun z => z.2.2.2.2.1) (hE153.trans e156.symm)
              have e162 : y128 = p155.2.2.2.2.2.1 := congrArg (fun z => z.2.2.2.2.2.1) (hE153.trans e156.symm)
              have e163 : y129 = p155.2.2.2.2.2.2.1 := congrArg (fun z => z.2.2.2.2.2.2.1) (hE153.trans e156.symm)
              have e164 : f130 = p155.2.2.2.2.2.2.2.1 := congrArg (fun z => z.2.2.2.2.2.2.2.1) (hE153.trans e156.symm)
              have e165 : y133 = p155.2.2.2.2.2.2.2.2.1 := congrArg (fun z => z.2.2.2.2.2.2.2.2.1) (hE153.trans e156.symm)
              have e166 : y134 = p155.2.2.2.2.2.2.2.2.2.1 := congrArg (fun z => z.2.2.2.2.2.2.2.2.2.1) (hE153.trans e156.symm)
              have e167 : f135 = p155.2.2.2.2.2.2.2.2.2.2 := congrArg (fun z => z.2.2.2.2.2.2.2.2.2.2) (hE153.trans e156.symm)
              replace b137 : q_F (0 ≤ y123.toInt) := b137
              replace b138 : q_F (y123.toInt ≤ 220) := b138
              replace b139 : q_F (0 ≤ y124.toInt) := b139
              replace b140 : q_F (0 ≤ y128.toInt) := b140
              replace b141 : q_F (y128.toInt ≤ 220) := b141
              replace b142 : q_F (0 ≤ y129.toInt) := b142
              replace b143 : q_F (0 ≤ y133.toInt) := b143
              replace b144 : q_F (y133.toInt ≤ 220) := b144
              replace b145 : q_F (0 ≤ y134.toInt) := b145
              replace b146 : q_F (t11_0.toInt ≤ y120.toInt) := b146
              replace b147 : q_F (y120.toInt ≤ t11_0.toInt) := b147
              replace b148 : q_F (t0_1.toInt ≤ y121.toInt) := b148
              replace b149 : q_F (y121.toInt ≤ t0_1.toInt) := b149
              replace b150 : q_F (y124.toInt ≤ t12_1.toInt) := b150
              replace b151 : q_F (y129.toInt ≤ t3_1.toInt) := b151
              replace b152 : q_F (y134.toInt ≤ y124.toInt + 1) := b152
              replace hT9 := (hu154 _ (by decide)).trans hT9
              replace hT10 := (hu154 _ (by decide)).trans hT10
              replace hT11 := (hu154 _ (by have z0 := yd3; simp only [List.mem_cons, List.not_mem_nil, or_false, not_or]; omega)).trans hT11
              replace hT12 := (hu154 _ (by have z0 := yd3; simp only [List.mem_cons, List.not_mem_nil, or_false, not_or]; omega)).trans hT12
              replace hT13 := (hu154 _ (by have z0 := yd3; simp only [List.mem_cons, List.not_mem_nil, or_false, not_or]; omega)).trans hT13
              replace hO90 := (hu154 _ (by decide)).trans hO90
              replace hF := q_uc hF hu154 (by simp)
              have hR168 := (show F_NH_decimal_abt_c133 x2 x3 x4 x5 t0_0 t0_1 t1_0 t1_1 t2_0 t3_0 t3_1 t4_0 t5_0 t5_1 t6_0 t7_0 t7_1 t8_0 t9_0 t9_1 t10_0 t11_0 t11_1 t12_0 t12_1 t13_0 lx58 p155 = (F_NH_decimal_abt x2 x3 x4 x5 t0_0 t0_1 t1_0 t1_1 t2_0 t3_0 t3_1 t4_0 t5_0 t5_1 t6_0 t7_0 t7_1 t8_0 t9_0 t9_1 t10_0 t11_0 t11_1 t12_0 t12_1 t13_0) from Eq.trans (by rw [e156, F_NH_decimal_abt_J36.eq_1, if_pos c87, if_pos c101, if_neg c103, if_pos c105, if_pos c113]) hR76)
              have hS169 := (show True ∧ S_NH_decimal_abt_c133 x2 x3 x4 x5 t0_0 t0_1 t1_0 t1_1 t2_0 t3_0 t3_1 t4_0 t5_0 t5_1 t6_0 t7_0 t7_1 t8_0 t9_0 t9_1 t10_0 t11_0 t11_1 t12_0 t12_1 t13_0 lx58 p155 from (by rw [e156]; have h := hS77; rw [S_NH_decimal_abt_J36.eq_1] at h; rw [if_pos c87] at h; replace h := q_s2 h; replace h := q_s2 h; replace h := q_s2 h; replace h := q_s2 h; rw [if_pos c101] at h; rw [if_neg c103] at h; rw [if_pos c105] at h; rw [if_pos c113] at h; replace h := q_s2 h; with_reducible exact h))
              refine lv_aload_n hx hb d_1_11_136 rfl (lv_at hl 2 rfl) ?_
              refine lv_iload hx hb d_1_11_137 (lv_at hl 6 rfl) ?_
              have ob173 : True ∧ S_NH_keepDecimal x5 y120 y121 y123 y124 f125 t9_0 t9_1 t10_0 t11_0 t11_1 t12_0 t12_1 t13_0 := (by rw [e161, e160, e159, e158, e157]; have h := hS169; rw [S_NH_decimal_abt_c133.eq_1] at h; with_reducible exact h.2.1)
              refine q_goxv V (q_runVX (As := [.int x5]) (rest := []) (d := 8) (mc := 1) (ms := 6) (ci := 0) C0 V rfl LV_NH_281 (X_NH_keepDecimal l D g q u117  x5 d3 hBd3 yd3 gd3x5 hlt hI y120 y121 hO119 y123 y124 hO122 f125 hA126 t9_0 t9_1 hT9 t10_0 hT10 t11_0 t11_1 hT11 t12_0 t12_1 hT12 t13_0 hT13 ob173 _) rfl rfl hO90 rfl hl.1 rfl (Nat.le_of_ble_eq_true rfl) ⟨by decide, by decide⟩ ⟨Nat.le_of_ble_eq_true rfl, Nat.le_of_ble_eq_true rfl⟩ d_1_11_139) (fun qx Ex ce u174 H locs hp175 V hce hcv hcl => ?_) (fun u174 H locs hp175 V => ?_)
              ·
                obtain ⟨cx190, hZ9⟩ := hp175
                obtain ⟨he191, hZ9⟩ := hZ9
                obtain ⟨hc192, hZ9⟩ := hZ9
                obtain ⟨hI, hZ9⟩ := hZ9
                obtain ⟨hu193, hZ9⟩ := hZ9
                obtain ⟨y177, hZ9⟩ := hZ9
                obtain ⟨y178, hZ9⟩ := hZ9
                obtain ⟨f179, hZ9⟩ := hZ9
                obtain ⟨y182, hZ9⟩ := hZ9
                obtain ⟨y183, hZ9⟩ := hZ9
                obtain ⟨y185, hZ9⟩ := hZ9
                obtain ⟨y186, hZ9⟩ := hZ9
                obtain ⟨f187, hZ9⟩ := hZ9
                obtain ⟨hO176, hZ9⟩ := hZ9
                obtain ⟨hA180, hZ9⟩ := hZ9
                obtain ⟨hO181, hZ9⟩ := hZ9
                obtain ⟨hO184, hZ9⟩ := hZ9
                obtain ⟨hA188, hE189⟩ := hZ9
                replace hO176 : u174[20]? = (some (q 20, .inr (2, [.ref (q 21), .int y177, .int y178])) : Option (Nat × va_E)) := hO176
                replace hA180 : u174[21]? = (some (q 21, .inl (g 0, (220 : Int32).toNatClampNeg, .inl f179)) : Option (Nat × va_E)) := hA180
                replace hO181 : u174[d3]? = (some (q d3, .inr (3, [.ref (q (d3 + 1)), .int y182, .int y183])) : Option (Nat × va_E)) := hO181
                replace hO184 : u174[d3 + 1]? = (some (q (d3 + 1), .inr (2, [.ref (q (d3 + 2)), .int y185, .int y186])) : Option (Nat × va_E)) := hO184
                replace hA188 : u174[d3 + 2]? = (some (q (d3 + 2), .inl (g 0, (108 : Int32).toNatClampNeg, .inl f187)) : Option (Nat × va_E)) := hA188
                obtain ⟨p194, e195⟩ : ∃ z, z = (F_NH_keepDecimal x5 y120 y121 y123 y124 f125 t9_0 t9_1 t10_0 t11_0 t11_1 t12_0 t12_1 t13_0) := ⟨_, rfl⟩
                have c196 : ¬ p194.1 = (0 : Int32) := fun z => hc192 (((congrArg (fun z => z.1) (hE189.trans e195.symm)) : cx190 = _).trans z)
                have e197 : y177 = p194.2.1 := congrArg (fun z => z.2.1) (hE189.trans e195.symm)
                have e198 : y178 = p194.2.2.1 := congrArg (fun z => z.2.2.1) (hE189.trans e195.symm)
                have e199 : f179 = p194.2.2.2.1 := congrArg (fun z => z.2.2.2.1) (hE189.trans e195.symm)
                have e200 : y182 = p194.2.2.2.2.1 := congrArg (fun z => z.2.2.2.2.1) (hE189.trans e195.symm)
                have e201 : y183 = p194.2.2.2.2.2.1 := congrArg (fun z => z.2.2.2.2.2.1) (hE189.trans e195.symm)
                have e202 : y185 = p194.2.2.2.2.2.2.1 := congrArg (fun z => z.2.2.2.2.2.2.1) (hE189.trans e195.symm)
                have e203 : y186 = p194.2.2.2.2.2.2.2.1 := congrArg (fun z => z.2.2.2.2.2.2.2.1) (hE189.trans e195.symm)
                have e204 : f187 = p194.2.2.2.2.2.2.2.2 := congrArg (fun z => z.2.2.2.2.2.2.2.2) (hE189.trans e195.symm)
                replace hO119 := (hu193 _ (by have z0 := yd3; simp only [List.mem_cons, List.not_mem_nil, or_false, not_or]; omega)).trans hO119
                replace hO122 := (hu193 _ (by have z0 := yd3; simp only [List.mem_cons, List.not_mem_nil, or_false, not_or]; omega)).trans hO122
                replace hA126 := (hu193 _ (by have z0 := yd3; simp only [List.mem_cons, List.not_mem_nil, or_false, not_or]; omega)).trans hA126
                replace hO127 := (hu193 _ (by have z0 := yd3; simp only [List.mem_cons, List.not_mem_nil, or_false, not_or]; omega)).trans hO127
                replace hA131 := (hu193 _ (by have z0 := yd3; simp only [List.mem_cons, List.not_mem_nil, or_false, not_or]; omega)).trans hA131
                replace hO132 := (hu193 _ (by have z0 := yd3; simp only [List.mem_cons, List.not_mem_nil, or_false, not_or]; omega)).trans hO132
                replace hA136 := (hu193 _ (by have z0 := yd3; simp only [List.mem_cons, List.not_mem_nil, or_false, not_or]; omega)).trans hA136
                replace hF := q_uc hF hu193 (by simp)
                have hR205 := (show F_NH_decimal_abt_c139 x2 x3 x4 x5 t0_0 t0_1 t1_0 t1_1 t2_0 t3_0 t3_1 t4_0 t5_0 t5_1 t6_0 t7_0 t7_1 t8_0 t9_0 t9_1 t10_0 t11_0 t11_1 t12_0 t12_1 t13_0 lx58 p155 y120 y121 y123 y124 f125 y128 y129 f130 y133 y134 f135 p194 = (F_NH_decimal_abt x2 x3 x4 x5 t0_0 t0_1 t1_0 t1_1 t2_0 t3_0 t3_1 t4_0 t5_0 t5_1 t6_0 t7_0 t7_1 t8_0 t9_0 t9_1 t10_0 t11_0 t11_1 t12_0 t12_1 t13_0) from Eq.trans (by rw [e195, e167, e166, e165, e164, e163, e162, e161, e160, e159, e158, e157, F_NH_decimal_abt_c133.eq_1]) hR168)
                have hS206 := (show True ∧ S_NH_decimal_abt_c139 x2 x3 x4 x5 t0_0 t0_1 t1_0 t1_1 t2_0 t3_0 t3_1 t4_0 t5_0 t5_1 t6_0 t7_0 t7_1 t8_0 t9_0 t9_1 t10_0 t11_0 t11_1 t12_0 t12_1 t13_0 lx58 p155 y120 y121 y123 y124 f125 y128 y129 f130 y133 y134 f135 p194 from (by rw [e195, e167, e166, e165, e164, e163, e162, e161, e160, e159, e158, e157]; have h := hS169; rw [S_NH_decimal_abt_c133.eq_1] at h; replace h := q_s2 h; with_reducible exact h))
                exact q_outT hno C0 V (⟨p194.1, (he191.trans (congrArg qE ((congrArg (fun z => z.1) (hE189.trans e195.symm)) : cx190 = _))), c196, hI, hF, y120, y121, y123, y124, f125, y128, y129, f130, y133, y134, f135, y177, y178, f179, y182, y183, y185, y186, f187, hO119, hO122, hA126, hO127, hA131, hO132, hA136, hO176, hA180, hO181, hO184, hA188, (show (p194.1, y120, y121, y123, y124, f125, y128, y129, f130, y133, y134, f135, y177, y178, f179, y182, y183, y185, y186, f187) = (F_NH_decimal_abt x2 x3 x4 x5 t0_0 t0_1 t1_0 t1_1 t2_0 t3_0 t3_1 t4_0 t5_0 t5_1 t6_0 t7_0 t7_1 t8_0 t9_0 t9_1 t10_0 t11_0 t11_1 t12_0 t12_1 t13_0) from Eq.trans (by rw [e204, e203, e202, e201, e200, e199, e198, e197, F_NH_decimal_abt_c139.eq_1, if_neg c196]) hR205)⟩) hce hcv hcl (Nat.le_of_ble_eq_true rfl) (Nat.le_of_ble_eq_true rfl)
              ·
                obtain ⟨hI, hZ9⟩ := hp175
                obtain ⟨hu248, hZ9⟩ := hZ9
                obtain ⟨y211, hZ9⟩ := hZ9
                obtain ⟨y212, hZ9⟩ := hZ9
                obtain ⟨f213, hZ9⟩ := hZ9
                obtain ⟨y216, hZ9⟩ := hZ9
                obtain ⟨y217, hZ9⟩ := hZ9
                obtain ⟨y219, hZ9⟩ := hZ9
                obtain ⟨y220, hZ9⟩ := hZ9
                obtain ⟨f221, hZ9⟩ := hZ9
                obtain ⟨hO210, hZ9⟩ := hZ9
                obtain ⟨hA214, hZ9⟩ := hZ9
                obtain ⟨hO215, hZ9⟩ := hZ9
                obtain ⟨hO218, hZ9⟩ := hZ9
                obtain ⟨hA222, hZ9⟩ := hZ9
                obtain ⟨b223, hZ9⟩ := hZ9
                obtain ⟨b224, hZ9⟩ := hZ9
                obtain ⟨b225, hZ9⟩ := hZ9
                obtain ⟨b226, hZ9⟩ := hZ9
                obtain ⟨b227, hZ9⟩ := hZ9
                obtain ⟨b228, hZ9⟩ := hZ9
                obtain ⟨b229, hZ9⟩ := hZ9
                obtain ⟨b230, hZ9⟩ := hZ9
                obtain ⟨b231, hZ9⟩ := hZ9
                obtain ⟨b232, hZ9⟩ := hZ9
                obtain ⟨b233, hZ9⟩ := hZ9
                obtain ⟨b234, hZ9⟩ := hZ9
                obtain ⟨b235, hZ9⟩ := hZ9
                obtain ⟨b236, hZ9⟩ := hZ9
                obtain ⟨b237, hZ9⟩ := hZ9
                obtain ⟨b238, hZ9⟩ := hZ9
                obtain ⟨b239, hZ9⟩ := hZ9
                obtain ⟨b240, hZ9⟩ := hZ9
                obtain ⟨b241, hZ9⟩ := hZ9
                obtain ⟨b242, hZ9⟩ := hZ9
                obtain ⟨b243, hZ9⟩ := hZ9
                obtain ⟨b244, hZ9⟩ := hZ9
                obtain ⟨b245, hZ9⟩ := hZ9
                obtain ⟨b246, hE247⟩ := hZ9
                replace hO210 : u174[20]? = (some (q 20, .inr (2, [.ref (q 21), .int y211, .int y212])) : Option (Nat × va_E)) := hO210
                replace hA214 : u174[21]? = (some (q 21, .inl (g 0, (220 : Int32).toNatClampNeg, .inl f213)) : Option (Nat × va_E)) := hA214
                replace hO215 : u174[d3]? = (some (q d3, .inr (3, [.ref (q (d3 + 1)), .int y216, .int y217])) : Option (Nat × va_E)) := hO215
                replace hO218 : u174[d3 + 1]? = (some (q (d3 + 1), .inr (2, [.ref (q (d3 + 2)), .int y219, .int y220])) : Option (Nat × va_E)) := hO218
                replace hA222 : u174[d3 + 2]? = (some (q (d3 + 2), .inl (g 0, (108 : Int32).toNatClampNeg, .inl f221)) : Option (Nat × va_E)) := hA222
                obtain ⟨p194, e195⟩ : ∃ z, z = (F_NH_keepDecimal x5 y120 y121 y123 y124 f125 t9_0 t9_1 t10_0 t11_0 t11_1 t12_0 t12_1 t13_0) := ⟨_, rfl⟩
                have c196 : p194.1 = (0 : Int32) := ((congrArg (fun z => z.1) (hE247.trans e195.symm)) : (0 : Int32) = _).symm
                have e250 : y211 = p194.2.1 := congrArg (fun z => z.2.1) (hE247.trans e195.symm)
                have e251 : y212 = p194.2.2.1 := congrArg (fun z => z.2.2.1) (hE247.trans e195.symm)
                have e252 : f213 = p194.2.2.2.1 := congrArg (fun z => z.2.2.2.1) (hE247.trans e195.symm)
                have e253 : y216 = p194.2.2.2.2.1 := congrArg (fun z => z.2.2.2.2.1) (hE247.trans e195.symm)
                have e254 : y217 = p194.2.2.2.2.2.1 := congrArg (fun z => z.2.2.2.2.2.1) (hE247.trans e195.symm)
                have e255 : y219 = p194.2.2.2.2.2.2.1 := congrArg (fun z => z.2.2.2.2.2.2.1) (hE247.trans e195.symm)
                have e256 : y220 = p194.2.2.2.2.2.2.2.1 := congrArg (fun z => z.2.2.2.2.2.2.2.1) (hE247.trans e195.symm)
                have e257 : f221 = p194.2.2.2.2.2.2.2.2 := congrArg (fun z => z.2.2.2.2.2.2.2.2) (hE247.trans e195.symm)
                replace b223 : q_F (0 ≤ y211.toInt) := b223
                replace b224 : q_F (y211.toInt ≤ 220) := b224
                replace b225 : q_F (0 ≤ y212.toInt) := b225
                replace b226 : q_F (y212.toInt ≤ 1) := b226
                replace b227 : q_F (0 ≤ y216.toInt + 10000) := b227
                replace b228 : q_F (y216.toInt ≤ 10000) := b228
                replace b229 : q_F (1 ≤ y217.toInt) := b229
                replace b230 : q_F (y217.toInt ≤ 1000) := b230
                replace b231 : q_F (0 ≤ y219.toInt) := b231
                replace b232 : q_F (y219.toInt ≤ 108) := b232
                replace b233 : q_F (0 ≤ y220.toInt) := b233
                replace b234 : q_F (y220.toInt ≤ 1) := b234
                replace b235 : q_F (x5.toInt ≤ y211.toInt + 9) := b235
                replace b236 : q_F (y211.toInt ≤ x5.toInt + 220) := b236
                replace b237 : q_F (x5.toInt ≤ y212.toInt + 9) := b237
                replace b238 : q_F (y212.toInt ≤ x5.toInt + 1) := b238
                replace b239 : q_F (x5.toInt ≤ y216.toInt + 10009) := b239
                replace b240 : q_F (y216.toInt ≤ x5.toInt + 10000) := b240
                replace b241 : q_F (x5.toInt ≤ y217.toInt + 8) := b241
                replace b242 : q_F (y217.toInt ≤ x5.toInt + 1000) := b242
                replace b243 : q_F (x5.toInt ≤ y219.toInt + 9) := b243
                replace b244 : q_F (y219.toInt ≤ x5.toInt + 108) := b244
                replace b245 : q_F (x5.toInt ≤ y220.toInt + 9) := b245
                replace b246 : q_F (y220.toInt ≤ x5.toInt + 1) := b246
                replace hO119 := (hu248 _ (by have z0 := yd3; simp only [List.mem_cons, List.not_mem_nil, or_false, not_or]; omega)).trans hO119
                replace hO122 := (hu248 _ (by have z0 := yd3; simp only [List.mem_cons, List.not_mem_nil, or_false, not_or]; omega)).trans hO122
                replace hA126 := (hu248 _ (by have z0 := yd3; simp only [List.mem_cons, List.not_mem_nil, or_false, not_or]; omega)).trans hA126
                replace hO127 := (hu248 _ (by have z0 := yd3; simp only [List.mem_cons, List.not_mem_nil, or_false, not_or]; omega)).trans hO127
                replace hA131 := (hu248 _ (by have z0 := yd3; simp only [List.mem_cons, List.not_mem_nil, or_false, not_or]; omega)).trans hA131
                replace hO132 := (hu248 _ (by have z0 := yd3; simp only [List.mem_cons, List.not_mem_nil, or_false, not_or]; omega)).trans hO132
                replace hA136 := (hu248 _ (by have z0 := yd3; simp only [List.mem_cons, List.not_mem_nil, or_false, not_or]; omega)).trans hA136
                replace hF := q_uc hF hu248 (by simp)
                have hR205 := (show F_NH_decimal_abt_c139 x2 x3 x4 x5 t0_0 t0_1 t1_0 t1_1 t2_0 t3_0 t3_1 t4_0 t5_0 t5_1 t6_0 t7_0 t7_1 t8_0 t9_0 t9_1 t10_0 t11_0 t11_1 t12_0 t12_1 t13_0 lx58 p155 y120 y121 y123 y124 f125 y128 y129 f130 y133 y134 f135 p194 = (F_NH_decimal_abt x2 x3 x4 x5 t0_0 t0_1 t1_0 t1_1 t2_0 t3_0 t3_1 t4_0 t5_0 t5_1 t6_0 t7_0 t7_1 t8_0 t9_0 t9_1 t10_0 t11_0 t11_1 t12_0 t12_1 t13_0) from Eq.trans (by rw [e195, e167, e166, e165, e164, e163, e162, e161, e160, e159, e158, e157, F_NH_decimal_abt_c133.eq_1]) hR168)
                have hS206 := (show True ∧ S_NH_decimal_abt_c139 x2 x3 x4 x5 t0_0 t0_1 t1_0 t1_1 t2_0 t3_0 t3_1 t4_0 t5_0 t5_1 t6_0 t7_0 t7_1 t8_0 t9_0 t9_1 t10_0 t11_0 t11_1 t12_0 t12_1 t13_0 lx58 p155 y120 y121 y123 y124 f125 y128 y129 f130 y133 y134 f135 p194 from (by rw [e195, e167, e166, e165, e164, e163, e162, e161, e160, e159, e158, e157]; have h := hS169; rw [S_NH_decimal_abt_c133.eq_1] at h; replace h := q_s2 h; with_reducible exact h))
                exact q_retX (q_retv C0 V (⟨hI, hF, y120, y121, y123, y124, f125, y128, y129, f130, y133, y134, f135, y211, y212, f213, y216, y217, y219, y220, f221, hO119, hO122, hA126, hO127, hA131, hO132, hA136, hO210, hA214, hO215, hO218, hA222, (show 0 ≤ y120.toInt + 20000 from (by have t1 : -10000 ≤ t11_0.toInt ∧ t11_0.toInt ≤ 10000 := btt11_0; have t2 : t11_0.toInt ≤ y120.toInt := b146; omega)), (show y120.toInt ≤ 20000 from (by have t1 : -10000 ≤ t11_0.toInt ∧ t11_0.toInt ≤ 10000 := btt11_0; have t2 : y120.toInt ≤ t11_0.toInt := b147; omega)), (show 0 ≤ y121.toInt from (by have t1 : 0 ≤ t0_1.toInt ∧ t0_1.toInt ≤ 1 := btt0_1; have t2 : t0_1.toInt ≤ y121.toInt := b148; omega)), (show y121.toInt ≤ 1 from (by have t1 : 0 ≤ t0_1.toInt ∧ t0_1.toInt ≤ 1 := btt0_1; have t2 : y121.toInt ≤ t0_1.toInt := b149; omega)), (show 0 ≤ y123.toInt from (by first | with_reducible exact q_fe b137 | (have t1 : 0 ≤ y123.toInt := b137; omega))), (show y123.toInt ≤ 220 from (by first | with_reducible exact q_fe b138 | (have t1 : y123.toInt ≤ 220 := b138; omega))), (show 0 ≤ y124.toInt from (by first | with_reducible exact q_fe b139 | (have t1 : 0 ≤ y124.toInt := b139; omega))), (show y124.toInt ≤ 1 from (by have t1 : 0 ≤ t12_1.toInt ∧ t12_1.toInt ≤ 1 := btt12_1; have t2 : y124.toInt ≤ t12_1.toInt := b150; omega)), (show 0 ≤ y128.toInt from (by first | with_reducible exact q_fe b140 | (have t1 : 0 ≤ y128.toInt := b140; omega))), (show y128.toInt ≤ 220 from (by first | with_reducible exact q_fe b141 | (have t1 : y128.toInt ≤ 220 := b141; omega))), (show 0 ≤ y129.toInt from (by first | with_reducible exact q_fe b142 | (have t1 : 0 ≤ y129.toInt := b142; omega))), (show y129.toInt ≤ 1 from (by have t1 : 0 ≤ t3_1.toInt ∧ t3_1.toInt ≤ 1 := btt3_1; have t2 : y129.toInt ≤ t3_1.toInt := b151; omega)), (show 0 ≤ y133.toInt from (by first | with_reducible exact q_fe b143 | (have t1 : 0 ≤ y133.toInt := b143; omega))), (show y133.toInt ≤ 220 from (by first | with_reducible exact q_fe b144 | (have t1 : y133.toInt ≤ 220 := b144; omega))), (show 0 ≤ y134.toInt from (by first | with_reducible exact q_fe b145 | (have t1 : 0 ≤ y134.toInt := b145; omega))), (show y134.toInt ≤ 2 from (by have t1 : 0 ≤ t12_1.toInt ∧ t12_1.toInt ≤ 1 := btt12_1; have t2 : y124.toInt ≤ t12_1.toInt := b150; have t3 : y134.toInt ≤ y124.toInt + 1 := b152; omega)), (show 0 ≤ y211.toInt from (by first | with_reducible exact q_fe b223 | (have t1 : 0 ≤ y211.toInt := b223; omega))), (show y211.toInt ≤ 220 from (by first | with_reducible exact q_fe b224 | (have t1 : y211.toInt ≤ 220 := b224; omega))), (show 0 ≤ y212.toInt from (by first | with_reducible exact q_fe b225 | (have t1 : 0 ≤ y212.toInt := b225; omega))), (show y212.toInt ≤ 1 from (by first | with_reducible exact q_fe b226 | (have t1 : y212.toInt ≤ 1 := b226; omega))), (show 0 ≤ y216.toInt + 10000 from (by first | with_reducible exact q_fe b227 | (have t1 : 0 ≤ y216.toInt + 10000 := b227; omega))), (show y216.toInt ≤ 10000 from (by first | with_reducible exact q_fe b228 | (have t1 : y216.toInt ≤ 10000 := b228; omega))), (show 1 ≤ y217.toInt from (by first | with_reducible exact q_fe b229 | (have t1 : 1 ≤ y217.toInt := b229; omega))), (show y217.toInt ≤ 1000 from (by first | with_reducible exact q_fe b230 | (have t1 : y217.toInt ≤ 1000 := b230; omega))), (show 0 ≤ y219.toInt from (by first | with_reducible exact q_fe b231 | (have t1 : 0 ≤ y219.toInt := b231; omega))), (show y219.toInt ≤ 108 from (by first | with_reducible exact q_fe b232 | (have t1 : y219.toInt ≤ 108 := b232; omega))), (show 0 ≤ y220.toInt from (by first | with_reducible exact q_fe b233 | (have t1 : 0 ≤ y220.toInt := b233; omega))), (show y220.toInt ≤ 1 from (by first | with_reducible exact q_fe b234 | (have t1 : y220.toInt ≤ 1 := b234; omega))), (show x3.toInt ≤ y120.toInt + 20009 from (by have t1 : -10000 ≤ t11_0.toInt ∧ t11_0.toInt ≤ 10000 := btt11_0; have t2 : x3.toInt ≤ 9 := ob93; have t3 : t11_0.toInt ≤ y120.toInt := b146; omega)), (show y120.toInt ≤ x3.toInt + 20000 from (by have t1 : -10000 ≤ t11_0.toInt ∧ t11_0.toInt ≤ 10000 := btt11_0; have t2 : 0 ≤ x3.toInt := ob92; have t3 : y120.toInt ≤ t11_0.toInt := b147; omega)), (show x4.toInt ≤ y120.toInt + 20009 from (by have t1 : -10000 ≤ t11_0.toInt ∧ t11_0.toInt ≤ 10000 := btt11_0; have t2 : x4.toInt ≤ 9 := ob98; have t3 : t11_0.toInt ≤ y120.toInt := b146; omega)), (show y120.toInt ≤ x4.toInt + 20000 from (by have t1 : -10000 ≤ t11_0.toInt ∧ t11_0.toInt ≤ 10000 := btt11_0; have t2 : 0 ≤ x4.toInt := ob97; have t3 : y120.toInt ≤ t11_0.toInt := b147; omega)), (show t11_0.toInt ≤ y120.toInt + 10000 from (by first | with_reducible exact q_fe b146 | (have t1 : t11_0.toInt ≤ y120.toInt := b146; omega))), (show y120.toInt ≤ t11_0.toInt + 20000 from (by first | with_reducible exact q_fe b147 | (have t1 : y120.toInt ≤ t11_0.toInt := b147; omega))), (show x3.toInt ≤ y121.toInt + 9 from (by have t1 : 0 ≤ t0_1.toInt ∧ t0_1.toInt ≤ 1 := btt0_1; have t2 : x3.toInt ≤ 9 := ob93; have t3 : t0_1.toInt ≤ y121.toInt := b148; omega)), (show y121.toInt ≤ x3.toInt + 1 from (by have t1 : 0 ≤ t0_1.toInt ∧ t0_1.toInt ≤ 1 := btt0_1; have t2 : 0 ≤ x3.toInt := ob92; have t3 : y121.toInt ≤ t0_1.toInt := b149; omega)), (show x4.toInt ≤ y121.toInt + 9 from (by have t1 : 0 ≤ t0_1.toInt ∧ t0_1.toInt ≤ 1 := btt0_1; have t2 : x4.toInt ≤ 9 := ob98; have t3 : t0_1.toInt ≤ y121.toInt := b148; omega)), (show y121.toInt ≤ x4.toInt + 1 from (by have t1 : 0 ≤ t0_1.toInt ∧ t0_1.toInt ≤ 1 := btt0_1; have t2 : 0 ≤ x4.toInt := ob97; have t3 : y121.toInt ≤ t0_1.toInt := b149; omega)), (show t0_1.toInt ≤ y121.toInt from (by first | with_reducible exact q_fe b148 | (have t1 : t0_1.toInt ≤ y121.toInt := b148; omega))), (show y121.toInt ≤ t0_1.toInt from (by first | with_reducible exact q_fe b149 | (have t1 : y121.toInt ≤ t0_1.toInt := b149; omega))), (show x3.toInt ≤ y123.toInt + 9 from (by have t1 : x3.toInt ≤ 9 := ob93; have t2 : 0 ≤ y123.toInt := b137; omega)), (show y123.toInt ≤ x3.toInt + 220 from (by have t1 : 0 ≤ x3.toInt := ob92; have t2 : y123.toInt ≤ 220 := b138; omega)), (show x4.toInt ≤ y123.toInt + 9 from (by have t1 : x4.toInt ≤ 9 := ob98; have t2 : 0 ≤ y123.toInt := b137; omega)), (show y123.toInt ≤ x4.toInt + 220 from (by have t1 : 0 ≤ x4.toInt := ob97; have t2 : y123.toInt ≤ 220 := b138; omega)), (show x3.toInt ≤ y124.toInt + 9 from (by have t1 : x3.toInt ≤ 9 := ob93; have t2 : 0 ≤ y124.toInt := b139; omega)), (show y124.toInt ≤ x3.toInt + 1 from (by have t1 : 0 ≤ t12_1.toInt ∧ t12_1.toInt ≤ 1 := btt12_1; have t2 : 0 ≤ x3.toInt := ob92; have t3 : y124.toInt ≤ t12_1.toInt := b150; omega)), (show x4.toInt ≤ y124.toInt + 9 from (by have t1 : x4.toInt ≤ 9 := ob98; have t2 : 0 ≤ y124.toInt := b139; omega)), (show y124.toInt ≤ x4.toInt + 1 from (by have t1 : 0 ≤ t12_1.toInt ∧ t12_1.toInt ≤ 1 := btt12_1; have t2 : 0 ≤ x4.toInt := ob97; have t3 : y124.toInt ≤ t12_1.toInt := b150; omega)), (show x3.toInt ≤ y128.toInt + 9 from (by have t1 : x3.toInt ≤ 9 := ob93; have t2 : 0 ≤ y128.toInt := b140; omega)), (show y128.toInt ≤ x3.toInt + 220 from (by have t1 : 0 ≤ x3.toInt := ob92; have t2 : y128.toInt ≤ 220 := b141; omega)), (show x4.toInt ≤ y128.toInt + 9 from (by have t1 : x4.toInt ≤ 9 := ob98; have t2 : 0 ≤ y128.toInt := b140; omega)), (show y128.toInt ≤ x4.toInt + 220 from (by have t1 : 0 ≤ x4.toInt := ob97; have t2 : y128.toInt ≤ 220 := b141; omega)), (show x3.toInt ≤ y129.toInt + 9 from (by have t1 : x3.toInt ≤ 9 := ob93; have t2 : 0 ≤ y129.toInt := b142; omega)), (show y129.toInt ≤ x3.toInt + 1 from (by have t1 : 0 ≤ t3_1.toInt ∧ t3_1.toInt ≤ 1 := btt3_1; have t2 : 0 ≤ x3.toInt := ob92; have t3 : y129.toInt ≤ t3_1.toInt := b151; omega)), (show x4.toInt ≤ y129.toInt + 9 from (by have t1 : x4.toInt ≤ 9 := ob98; have t2 : 0 ≤ y129.toInt := b142; omega)), (show y129.toInt ≤ x4.toInt + 1 from (by have t1 : 0 ≤ t3_1.toInt ∧ t3_1.toInt ≤ 1 := btt3_1; have t2 : 0 ≤ x4.toInt := ob97; have t3 : y129.toInt ≤ t3_1.toInt := b151; omega)), (show y129.toInt ≤ t3_1.toInt from (by first | with_reducible exact q_fe b151 | (have t1 : y129.toInt ≤ t3_1.toInt := b151; omega))), (show x3.toInt ≤ y133.toInt + 9 from (by have t1 : x3.toInt ≤ 9 := ob93; have t2 : 0 ≤ y133.toInt := b143; omega)), (show y133.toInt ≤ x3.toInt + 220 from (by have t1 : 0 ≤ x3.toInt := ob92; have t2 : y133.toInt ≤ 220 := b144; omega)), (show x4.toInt ≤ y133.toInt + 9 from (by have t1 : x4.toInt ≤ 9 := ob98; have t2 : 0 ≤ y133.toInt := b143; omega)), (show y133.toInt ≤ x4.toInt + 220 from (by have t1 : 0 ≤ x4.toInt := ob97; have t2 : y133.toInt ≤ 220 := b144; omega)), (show x3.toInt ≤ y134.toInt + 9 from (by have t1 : x3.toInt ≤ 9 := ob93; have t2 : 0 ≤ y134.toInt := b145; omega)), (show x4.toInt ≤ y134.toInt + 9 from (by have t1 : x4.toInt ≤ 9 := ob98; have t2 : 0 ≤ y134.toInt := b145; omega)), (show y134.toInt ≤ t12_1.toInt + 1 from (by have t1 : y124.toInt ≤ t12_1.toInt := b150; have t2 : y134.toInt ≤ y124.toInt + 1 := b152; omega)), (show x3.toInt ≤ y211.toInt + 9 from (by have t1 : x3.toInt ≤ 9 := ob93; have t2 : 0 ≤ y211.toInt := b223; omega)), (show y211.toInt ≤ x3.toInt + 220 from (by have t1 : 0 ≤ x3.toInt := ob92; have t2 : y211.toInt ≤ 220 := b224; omega)), (show x4.toInt ≤ y211.toInt + 9 from (by have t1 : x4.toInt ≤ 9 := ob98; have t2 : 0 ≤ y211.toInt := b223; omega)), (show y211.toInt ≤ x4.toInt + 220 from (by have t1 : 0 ≤ x4.toInt := ob97; have t2 : y211.toInt ≤ 220 := b224; omega)), (show x5.toInt ≤ y211.toInt + 9 from (by first | with_reducible exact q_fe b235 | (have t1 : x5.toInt ≤ y211.toInt + 9 := b235; omega))), (show y211.toInt ≤ x5.toInt + 220 from (by first | with_reducible exact q_fe b236 | (have t1 : y211.toInt ≤ x5.toInt + 220 := b236; omega))), (show x3.toInt ≤ y212.toInt + 9 from (by have t1 : x3.toInt ≤ 9 := ob93; have t2 : 0 ≤ y212.toInt := b225; omega)), (show y212.toInt ≤ x3.toInt + 1 from (by have t1 : 0 ≤ x3.toInt := ob92; have t2 : y212.toInt ≤ 1 := b226; omega)), (show x4.toInt ≤ y212.toInt + 9 from (by have t1 : x4.toInt ≤ 9 := ob98; have t2 : 0 ≤ y212.toInt := b225; omega)), (show y212.toInt ≤ x4.toInt + 1 from (by have t1 : 0 ≤ x4.toInt := ob97; have t2 : y212.toInt ≤ 1 := b226; omega)), (show x5.toInt ≤ y212.toInt + 9 from (by first | with_reducible exact q_fe b237 | (have t1 : x5.toInt ≤ y212.toInt + 9 := b237; omega))), (show y212.toInt ≤ x5.toInt + 1 from (by first | with_reducible exact q_fe b238 | (have t1 : y212.toInt ≤ x5.toInt + 1 := b238; omega))), (show x3.toInt ≤ y216.toInt + 10009 from (by have t1 : x3.toInt ≤ 9 := ob93; have t2 : 0 ≤ y216.toInt + 10000 := b227; omega)), (show y216.toInt ≤ x3.toInt + 10000 from (by have t1 : 0 ≤ x3.toInt := ob92; have t2 : y216.toInt ≤ 10000 := b228; omega)), (show x4.toInt ≤ y216.toInt + 10009 from (by have t1 : x4.toInt ≤ 9 := ob98; have t2 : 0 ≤ y216.toInt + 10000 := b227; omega)), (show y216.toInt ≤ x4.toInt + 10000 from (by have t1 : 0 ≤ x4.toInt := ob97; have t2 : y216.toInt ≤ 10000 := b228; omega)), (show x5.toInt ≤ y216.toInt + 10009 from (by first | with_reducible exact q_fe b239 | (have t1 : x5.toInt ≤ y216.toInt + 10009 := b239; omega))), (show y216.toInt ≤ x5.toInt + 10000 from (by first | with_reducible exact q_fe b240 | (have t1 : y216.toInt ≤ x5.toInt + 10000 := b240; omega))), (show x3.toInt ≤ y217.toInt + 8 from (by have t1 : x3.toInt ≤ 9 := ob93; have t2 : 1 ≤ y217.toInt := b229; omega)), (show y217.toInt ≤ x3.toInt + 1000 from (by have t1 : 0 ≤ x3.toInt := ob92; have t2 : y217.toInt ≤ 1000 := b230; omega)), (show x4.toInt ≤ y217.toInt + 8 from (by have t1 : x4.toInt ≤ 9 := ob98; have t2 : 1 ≤ y217.toInt := b229; omega)), (show y217.toInt ≤ x4.toInt + 1000 from (by have t1 : 0 ≤ x4.toInt := ob97; have t2 : y217.toInt ≤ 1000 := b230; omega)), (show x5.toInt ≤ y217.toInt + 8 from (by first | with_reducible exact q_fe b241 | (have t1 : x5.toInt ≤ y217.toInt + 8 := b241; omega))), (show y217.toInt ≤ x5.toInt + 1000 from (by first | with_reducible exact q_fe b242 | (have t1 : y217.toInt ≤ x5.toInt + 1000 := b242; omega))), (show x3.toInt ≤ y219.toInt + 9 from (by have t1 : x3.toInt ≤ 9 := ob93; have t2 : 0 ≤ y219.toInt := b231; omega)), (show y219.toInt ≤ x3.toInt + 108 from (by have t1 : 0 ≤ x3.toInt := ob92; have t2 : y219.toInt ≤ 108 := b232; omega)), (show x4.toInt ≤ y219.toInt + 9 from (by have t1 : x4.toInt ≤ 9 := ob98; have t2 : 0 ≤ y219.toInt := b231; omega)), (show y219.toInt ≤ x4.toInt + 108 from (by have t1 : 0 ≤ x4.toInt := ob97; have t2 : y219.toInt ≤ 108 := b232; omega)), (show x5.toInt ≤ y219.toInt + 9 from (by first | with_reducible exact q_fe b243 | (have t1 : x5.toInt ≤ y219.toInt + 9 := b243; omega))), (show y219.toInt ≤ x5.toInt + 108 from (by first | with_reducible exact q_fe b244 | (have t1 : y219.toInt ≤ x5.toInt + 108 := b244; omega))), (show x3.toInt ≤ y220.toInt + 9 from (by have t1 : x3.toInt ≤ 9 := ob93; have t2 : 0 ≤ y220.toInt := b233; omega)), (show y220.toInt ≤ x3.toInt + 1 from (by have t1 : 0 ≤ x3.toInt := ob92; have t2 : y220.toInt ≤ 1 := b234; omega)), (show x4.toInt ≤ y220.toInt + 9 from (by have t1 : x4.toInt ≤ 9 := ob98; have t2 : 0 ≤ y220.toInt := b233; omega)), (show y220.toInt ≤ x4.toInt + 1 from (by have t1 : 0 ≤ x4.toInt := ob97; have t2 : y220.toInt ≤ 1 := b234; omega)), (show x5.toInt ≤ y220.toInt + 9 from (by first | with_reducible exact q_fe b245 | (have t1 : x5.toInt ≤ y220.toInt + 9 := b245; omega))), (show y220.toInt ≤ x5.toInt + 1 from (by first | with_reducible exact q_fe b246 | (have t1 : y220.toInt ≤ x5.toInt + 1 := b246; omega))), (show y134.toInt ≤ y120.toInt + 20001 from (by have t1 : -10000 ≤ t11_0.toInt ∧ t11_0.toInt ≤ 10000 := btt11_0; have t2 : 0 ≤ t12_1.toInt ∧ t12_1.toInt ≤ 1 := btt12_1; have t3 : t11_0.toInt ≤ y120.toInt := b146; have t4 : y124.toInt ≤ t12_1.toInt := b150; have t5 : y134.toInt ≤ y124.toInt + 1 := b152; omega)), (show y134.toInt ≤ y124.toInt + 1 from (by first | with_reducible exact q_fe b152 | (have t1 : y134.toInt ≤ y124.toInt + 1 := b152; omega))), (show ((0 : Int32), y120, y121, y123, y124, f125, y128, y129, f130, y133, y134, f135, y211, y212, f213, y216, y217, y219, y220, f221) = (F_NH_decimal_abt x2 x3 x4 x5 t0_0 t0_1 t1_0 t1_1 t2_0 t3_0 t3_1 t4_0 t5_0 t5_1 t6_0 t7_0 t7_1 t8_0 t9_0 t9_1 t10_0 t11_0 t11_1 t12_0 t12_1 t13_0) from Eq.trans (by rw [e257, e256, e255, e254, e253, e252, e251, e250, F_NH_decimal_abt_c139.eq_1, if_pos c196]) hR205)⟩) d_1_11_142)
          ·
            refine lv_iconst (v := 1) hx hb d_1_11_117 (by decide) ?_
            refine lv_goto (tgt := 122) hx hb d_1_11_118 (by decide) ?_
            refine q_goxv V (q_runSX (As := [.int 1]) (rest := []) (d := 7) (mc := 1) (ms := 6) C0 V rfl LS_NH_138 (X_NH_canHave l D g q ws  1 hlt hI  ⟨(by have y0 : (1 : Int32).toInt = 1 := rfl; omega), (by have y0 : (1 : Int32).toInt = 1 := rfl; omega)⟩ _) rfl hl.1 rfl (Nat.le_of_ble_eq_true rfl) ⟨by decide, by decide⟩ ⟨Nat.le_of_ble_eq_true rfl, Nat.le_of_ble_eq_true rfl⟩ d_1_11_122) (fun qx Ex ce u259 H locs hp260 V hce hcv hcl => ?_) (fun u259 H locs hp260 V => ?_)
            ·
              obtain ⟨cx262, he263, hc264, rfl, hE261⟩ := hp260
              have c265 : ¬ (F_NH_canHave (1 : Int32)) = (0 : Int32) := fun z => hc264 (((hE261) : cx262 = _).trans z)
              exact q_outT hno C0 V (⟨(F_NH_canHave (1 : Int32)), (he263.trans (congrArg qE ((hE261) : cx262 = _))), c265, hI, hF, t0_0, t0_1, t1_0, t1_1, t2_0, t3_0, t3_1, t4_0, t5_0, t5_1, t6_0, t9_0, t9_1, t10_0, t11_0, t11_1, t12_0, t12_1, t13_0, hT0, hT1, hT2, hT3, hT4, hT5, hT6, hT9, hT10, hT11, hT12, hT13, (show ((F_NH_canHave (1 : Int32)), t0_0, t0_1, t1_0, t1_1, t2_0, t3_0, t3_1, t4_0, t5_0, t5_1, t6_0, t9_0, t9_1, t10_0, t11_0, t11_1, t12_0, t12_1, t13_0) = (F_NH_decimal_abt x2 x3 x4 x5 t0_0 t0_1 t1_0 t1_1 t2_0 t3_0 t3_1 t4_0 t5_0 t5_1 t6_0 t7_0 t7_1 t8_0 t9_0 t9_1 t10_0 t11_0 t11_1 t12_0 t12_1 t13_0) from Eq.trans (by rw [F_NH_decimal_abt_J36.eq_1, if_pos c87, if_pos c101, if_neg c103, if_neg c105, if_neg c265]) hR76)⟩) hce hcv hcl (Nat.le_of_ble_eq_true rfl) (Nat.le_of_ble_eq_true rfl)
            ·
              obtain ⟨rfl, hE266⟩ := hp260
              have c265 : (F_NH_canHave (1 : Int32)) = (0 : Int32) := ((hE266) : (0 : Int32) = _).symm
              refine lv_aload_n hx hb d_1_11_125 rfl (lv_at hl 2 rfl) ?_
              refine q_get (ci := 0) (j := 7) (v := .ref (q 30)) C0 V i_NH rfl rfl hO90 (by decide) w_431 rfl d_1_11_126 ?_
              refine lv_aload hx hb d_1_11_129 (lv_at hl 1 rfl) ?_
              refine lv_aload hx hb d_1_11_131 (lv_at hl 0 rfl) ?_
              have ob268 : True ∧ S_DW_rest_a (108 : Int32) t0_0 t0_1 t1_0 t1_1 t2_0 t3_0 t3_1 t4_0 t5_0 t5_1 t6_0 t7_0 t7_1 t8_0 t11_0 t11_1 t12_0 t12_1 t13_0 := (by have h := hS77; rw [S_NH_decimal_abt_J36.eq_1] at h; rw [if_pos c87] at h; replace h := q_s2 h; replace h := q_s2 h; replace h := q_s2 h; replace h := q_s2 h; rw [if_pos c101] at h; rw [if_neg c103] at h; rw [if_neg c105] at h; rw [if_pos c265] at h; with_reducible exact h.2.1)
              refine q_gov V (q_runV (As := [.ref (q d3), .ref (q d3)]) (rest := []) (d := 5) (mc := 0) (ms := 0) (ci := 5) C0 V rfl LV_NH_278 (X_DW_rest_a l D g q ws d3 108 hBd3 (Or.inr yd3)  (by have z0 := yd3; omega) (by have z0 := yd3; omega) (by have z0 := yd3; omega) (by have z0 := yd3; omega) (by have z0 := yd3; omega) (by have z0 := yd3; omega) (by have z0 := yd3; omega) (by have z0 := yd3; omega) (by have z0 := yd3; omega) (by have z0 := yd3; omega) (by have z0 := yd3; omega) (by have z0 := yd3; omega) (by have z0 := yd3; omega) (by have z0 := yd3; omega) (by have z0 := yd3; omega) (by have z0 := yd3; omega) hI t0_0 t0_1 hT0 t1_0 t1_1 hT1 t2_0 hT2 t3_0 t3_1 hT3 t4_0 hT4 t5_0 t5_1 hT5 t6_0 hT6 t7_0 t7_1 hT7 t8_0 hT8 t11_0 t11_1 hT11 t12_0 t12_1 hT12 t13_0 hT13 ob268 _) rfl rfl hT0 rfl hl.1 rfl (Nat.le_of_ble_eq_true rfl) ⟨by decide, by decide⟩ ⟨Nat.le_of_ble_eq_true rfl, Nat.le_of_ble_eq_true rfl⟩ d_1_11_133) (fun u269 H locs hp270 V => ?_)
              obtain ⟨hI, hZ9⟩ := hp270
              obtain ⟨hu306, hZ9⟩ := hZ9
              obtain ⟨y272, hZ9⟩ := hZ9
              obtain ⟨y273, hZ9⟩ := hZ9
              obtain ⟨y275, hZ9⟩ := hZ9
              obtain ⟨y276, hZ9⟩ := hZ9
              obtain ⟨f277, hZ9⟩ := hZ9
              obtain ⟨y280, hZ9⟩ := hZ9
              obtain ⟨y281, hZ9⟩ := hZ9
              obtain ⟨f282, hZ9⟩ := hZ9
              obtain ⟨y285, hZ9⟩ := hZ9
              obtain ⟨y286, hZ9⟩ := hZ9
              obtain ⟨f287, hZ9⟩ := hZ9
              obtain ⟨hO271, hZ9⟩ := hZ9
              obtain ⟨hO274, hZ9⟩ := hZ9
              obtain ⟨hA278, hZ9⟩ := hZ9
              obtain ⟨hO279, hZ9⟩ := hZ9
              obtain ⟨hA283, hZ9⟩ := hZ9
              obtain ⟨hO284, hZ9⟩ := hZ9
              obtain ⟨hA288, hZ9⟩ := hZ9
              obtain ⟨b289, hZ9⟩ := hZ9
              obtain ⟨b290, hZ9⟩ := hZ9
              obtain ⟨b291, hZ9⟩ := hZ9
              obtain ⟨b292, hZ9⟩ := hZ9
              obtain ⟨b293, hZ9⟩ := hZ9
              obtain ⟨b294, hZ9⟩ := hZ9
              obtain ⟨b295, hZ9⟩ := hZ9
              obtain ⟨b296, hZ9⟩ := hZ9
              obtain ⟨b297, hZ9⟩ := hZ9
              obtain ⟨b298, hZ9⟩ := hZ9
              obtain ⟨b299, hZ9⟩ := hZ9
              obtain ⟨b300, hZ9⟩ := hZ9
              obtain ⟨b301, hZ9⟩ := hZ9
              obtain ⟨b302, hZ9⟩ := hZ9
              obtain ⟨b303, hZ9⟩ := hZ9
              obtain ⟨b304, hE305⟩ := hZ9
              replace hO271 : u269[30]? = (some (q 30, .inr (5, [.ref (q 31), .long y272, .ref (q 9), .int y273])) : Option (Nat × va_E)) := hO271
              replace hO274 : u269[10]? = (some (q 10, .inr (2, [.ref (q 11), .int y275, .int y276])) : Option (Nat × va_E)) := hO274
              replace hA278 : u269[11]? = (some (q 11, .inl (g 0, (220 : Int32).toNatClampNeg, .inl f277)) : Option (Nat × va_E)) := hA278
              replace hO279 : u269[12]? = (some (q 12, .inr (2, [.ref (q 13), .int y280, .int y281])) : Option (Nat × va_E)) := hO279
              replace hA283 : u269[13]? = (some (q 13, .inl (g 0, (220 : Int32).toNatClampNeg, .inl f282)) : Option (Nat × va_E)) := hA283
              replace hO284 : u269[22]? = (some (q 22, .inr (2, [.ref (q 23), .int y285, .int y286])) : Option (Nat × va_E)) := hO284
              replace hA288 : u269[23]? = (some (q 23, .inl (g 0, (220 : Int32).toNatClampNeg, .inl f287)) : Option (Nat × va_E)) := hA288
              obtain ⟨p307, e308⟩ : ∃ z, z = (F_DW_rest_a (108 : Int32) t0_0 t0_1 t1_0 t1_1 t2_0 t3_0 t3_1 t4_0 t5_0 t5_1 t6_0 t7_0 t7_1 t8_0 t11_0 t11_1 t12_0 t12_1 t13_0) := ⟨_, rfl⟩
              have e309 : y272 = p307.1 := congrArg (fun z => z.1) (hE305.trans e308.symm)
              have e310 : y273 = p307.2.1 := congrArg (fun z => z.2.1) (hE305.trans e308.symm)
              have e311 : y275 = p307.2.2.1 := congrArg (fun z => z.2.2.1) (hE305.trans e308.symm)
              have e312 : y276 = p307.2.2.2.1 := congrArg (fun z => z.2.2.2.1) (hE305.trans e308.symm)
              have e313 : f277 = p307.2.2.2.2.1 := congrArg (fun z => z.2.2.2.2.1) (hE305.trans e308.symm)
              have e314 : y280 = p307.2.2.2.2.2.1 := congrArg (fun z => z.2.2.2.2.2.1) (hE305.trans e308.symm)
              have e315 : y281 = p307.2.2.2.2.2.2.1 := congrArg (fun z => z.2.2.2.2.2.2.1) (hE305.trans e308.symm)
              have e316 : f282 = p307.2.2.2.2.2.2.2.1 := congrArg (fun z => z.2.2.2.2.2.2.2.1) (hE305.trans e308.symm)
              have e317 : y285 = p307.2.2.2.2.2.2.2.2.1 := congrArg (fun z => z.2.2.2.2.2.2.2.2.1) (hE305.trans e308.symm)
              have e318 : y286 = p307.2.2.2.2.2.2.2.2.2.1 := congrArg (fun z => z.2.2.2.2.2.2.2.2.2.1) (hE305.trans e308.symm)
              have e319 : f287 = p307.2.2.2.2.2.2.2.2.2.2 := congrArg (fun z => z.2.2.2.2.2.2.2.2.2.2) (hE305.trans e308.symm)
              replace b289 : q_F (0 ≤ y275.toInt) := b289
              replace b290 : q_F (y275.toInt ≤ 220) := b290
              replace b291 : q_F (0 ≤ y276.toInt) := b291
              replace b292 : q_F (0 ≤ y280.toInt) := b292
              replace b293 : q_F (y280.toInt ≤ 220) := b293
              replace b294 : q_F (0 ≤ y281.toInt) := b294
              replace b295 : q_F (0 ≤ y285.toInt) := b295
              replace b296 : q_F (y285.toInt ≤ 220) := b296
              replace b297 : q_F (0 ≤ y286.toInt) := b297
              replace b298 : q_F (t11_0.toInt ≤ y272.toInt) := b298
              replace b299 : q_F (y272.toInt ≤ t11_0.toInt) := b299
              replace b300 : q_F (t0_1.toInt ≤ y273.toInt) := b300
              replace b301 : q_F (y273.toInt ≤ t0_1.toInt) := b301
              replace b302 : q_F (y276.toInt ≤ t12_1.toInt) := b302
              replace b303 : q_F (y281.toInt ≤ t3_1.toInt) := b303
              replace b304 : q_F (y286.toInt ≤ y276.toInt + 1) := b304
              replace hT9 := (hu306 _ (by decide)).trans hT9
              replace hT10 := (hu306 _ (by decide)).trans hT10
              replace hT11 := (hu306 _ (by have z0 := yd3; simp only [List.mem_cons, List.not_mem_nil, or_false, not_or]; omega)).trans hT11
              replace hT12 := (hu306 _ (by have z0 := yd3; simp only [List.mem_cons, List.not_mem_nil, or_false, not_or]; omega)).trans hT12
              replace hT13 := (hu306 _ (by have z0 := yd3; simp only [List.mem_cons, List.not_mem_nil, or_false, not_or]; omega)).trans hT13
              replace hO90 := (hu306 _ (by decide)).trans hO90
              replace hF := q_uc hF hu306 (by simp)
              have hR320 := (show F_NH_decimal_abt_c133_4 x2 x3 x4 x5 t0_0 t0_1 t1_0 t1_1 t2_0 t3_0 t3_1 t4_0 t5_0 t5_1 t6_0 t7_0 t7_1 t8_0 t9_0 t9_1 t10_0 t11_0 t11_1 t12_0 t12_1 t13_0 lx58 p307 = (F_NH_decimal_abt x2 x3 x4 x5 t0_0 t0_1 t1_0 t1_1 t2_0 t3_0 t3_1 t4_0 t5_0 t5_1 t6_0 t7_0 t7_1 t8_0 t9_0 t9_1 t10_0 t11_0 t11_1 t12_0 t12_1 t13_0) from Eq.trans (by rw [e308, F_NH_decimal_abt_J36.eq_1, if_pos c87, if_pos c101, if_neg c103, if_neg c105, if_pos c265]) hR76)
              have hS321 := (show True ∧ S_NH_decimal_abt_c133_4 x2 x3 x4 x5 t0_0 t0_1 t1_0 t1_1 t2_0 t3_0 t3_1 t4_0 t5_0 t5_1 t6_0 t7_0 t7_1 t8_0 t9_0 t9_1 t10_0 t11_0 t11_1 t12_0 t12_1 t13_0 lx58 p307 from (by rw [e308]; have h := hS77; rw [S_NH_decimal_abt_J36.eq_1] at h; rw [if_pos c87] at h; replace h := q_s2 h; replace h := q_s2 h; replace h := q_s2 h; replace h := q_s2 h; rw [if_pos c101] at h; rw [if_neg c103] at h; rw [if_neg c105] at h; rw [if_pos c265] at h; replace h := q_s2 h; with_reducible exact h))
              refine lv_aload_n hx hb d_1_11_136 rfl (lv_at hl 2 rfl) ?_
              refine lv_iload hx hb d_1_11_137 (lv_at hl 6 rfl) ?_
              have ob325 : True ∧ S_NH_keepDecimal x5 y272 y273 y275 y276 f277 t9_0 t9_1 t10_0 t11_0 t11_1 t12_0 t12_1 t13_0 := (by rw [e313, e312, e311, e310, e309]; have h := hS321; rw [S_NH_decimal_abt_c133_4.eq_1] at h; with_reducible exact h.2.1)
              refine q_goxv V (q_runVX (As := [.int x5]) (rest := []) (d := 8) (mc := 1) (ms := 6) (ci := 0) C0 V rfl LV_NH_281 (X_NH_keepDecimal l D g q u269  x5 d3 hBd3 yd3 gd3x5 hlt hI y272 y273 hO271 y275 y276 hO274 f277 hA278 t9_0 t9_1 hT9 t10_0 hT10 t11_0 t11_1 hT11 t12_0 t12_1 hT12 t13_0 hT13 ob325 _) rfl rfl hO90 rfl hl.1 rfl (Nat.le_of_ble_eq_true rfl) ⟨by decide, by decide⟩ ⟨Nat.le_of_ble_eq_true rfl, Nat.le_of_ble_eq_true rfl⟩ d_1_11_139) (fun qx Ex ce u326 H locs hp327 V hce hcv hcl => ?_) (fun u326 H locs hp327 V => ?_)
              ·
                obtain ⟨cx342, hZ9⟩ := hp327
                obtain ⟨he343, hZ9⟩ := hZ9
                obtain ⟨hc344, hZ9⟩ := hZ9
                obtain ⟨hI, hZ9⟩ := hZ9
                obtain ⟨hu345, hZ9⟩ := hZ9
                obtain ⟨y329, hZ9⟩ := hZ9
                obtain ⟨y330, hZ9⟩ := hZ9
                obtain ⟨f331, hZ9⟩ := hZ9
                obtain ⟨y334, hZ9⟩ := hZ9
                obtain ⟨y335, hZ9⟩ := hZ9
                obtain ⟨y337, hZ9⟩ := hZ9
                obtain ⟨y338, hZ9⟩ := hZ9
                obtain ⟨f339, hZ9⟩ := hZ9
                obtain ⟨hO328, hZ9⟩ := hZ9
                obtain ⟨hA332, hZ9⟩ := hZ9
                obtain ⟨hO333, hZ9⟩ := hZ9
                obtain ⟨hO336, hZ9⟩ := hZ9
                obtain ⟨hA340, hE341⟩ := hZ9
                replace hO328 : u326[20]? = (some (q 20, .inr (2, [.ref (q 21), .int y329, .int y330])) : Option (Nat × va_E)) := hO328
                replace hA332 : u326[21]? = (some (q 21, .inl (g 0, (220 : Int32).toNatClampNeg, .inl f331)) : Option (Nat × va_E)) := hA332
                replace hO333 : u326[d3]? = (some (q d3, .inr (3, [.ref (q (d3 + 1)), .int y334, .int y335])) : Option (Nat × va_E)) := hO333
                replace hO336 : u326[d3 + 1]? = (some (q (d3 + 1), .inr (2, [.ref (q (d3 + 2)), .int y337, .int y338])) : Option (Nat × va_E)) := hO336
                replace hA340 : u326[d3 + 2]? = (some (q (d3 + 2), .inl (g 0, (108 : Int32).toNatClampNeg, .inl f339)) : Option (Nat × va_E)) := hA340
                obtain ⟨p346, e347⟩ : ∃ z, z = (F_NH_keepDecimal x5 y272 y273 y275 y276 f277 t9_0 t9_1 t10_0 t11_0 t11_1 t12_0 t12_1 t13_0) := ⟨_, rfl⟩
                have c348 : ¬ p346.1 = (0 : Int32) := fun z => hc344 (((congrArg (fun z => z.1) (hE341.trans e347.symm)) : cx342 = _).trans z)
                have e349 : y329 = p346.2.1 := congrArg (fun z => z.2.1) (hE341.trans e347.symm)
                have e350 : y330 = p346.2.2.1 := congrArg (fun z => z.2.2.1) (hE341.trans e347.symm)
                have e351 : f331 = p346.2.2.2.1 := congrArg (fun z => z.2.2.2.1) (hE341.trans e347.symm)
                have e352 : y334 = p346.2.2.2.2.1 := congrArg (fun z => z.2.2.2.2.1) (hE341.trans e347.symm)
                have e353 : y335 = p346.2.2.2.2.2.1 := congrArg (fun z => z.2.2.2.2.2.1) (hE341.trans e347.symm)
                have e354 : y337 = p346.2.2.2.2.2.2.1 := congrArg (fun z => z.2.2.2.2.2.2.1) (hE341.trans e347.symm)
                have e355 : y338 = p346.2.2.2.2.2.2.2.1 := congrArg (fun z => z.2.2.2.2.2.2.2.1) (hE341.trans e347.symm)
                have e356 : f339 = p346.2.2.2.2.2.2.2.2 := congrArg (fun z => z.2.2.2.2.2.2.2.2) (hE341.trans e347.symm)
                replace hO271 := (hu345 _ (by have z0 := yd3; simp only [List.mem_cons, List.not_mem_nil, or_false, not_or]; omega)).trans hO271
                replace hO274 := (hu345 _ (by have z0 := yd3; simp only [List.mem_cons, List.not_mem_nil, or_false, not_or]; omega)).trans hO274
                replace hA278 := (hu345 _ (by have z0 := yd3; simp only [List.mem_cons, List.not_mem_nil, or_false, not_or]; omega)).trans hA278
                replace hO279 := (hu345 _ (by have z0 := yd3; simp only [List.mem_cons, List.not_mem_nil, or_false, not_or]; omega)).trans hO279
                replace hA283 := (hu345 _ (by have z0 := yd3; simp only [List.mem_cons, List.not_mem_nil, or_false, not_or]; omega)).trans hA283
                replace hO284 := (hu345 _ (by have z0 := yd3; simp only [List.mem_cons, List.not_mem_nil, or_false, not_or]; omega)).trans hO284
                replace hA288 := (hu345 _ (by have z0 := yd3; simp only [List.mem_cons, List.not_mem_nil, or_false, not_or]; omega)).trans hA288
                replace hF := q_uc hF hu345 (by simp)
                have hR357 := (show F_NH_decimal_abt_c139_5 x2 x3 x4 x5 t0_0 t0_1 t1_0 t1_1 t2_0 t3_0 t3_1 t4_0 t5_0 t5_1 t6_0 t7_0 t7_1 t8_0 t9_0 t9_1 t10_0 t11_0 t11_1 t12_0 t12_1 t13_0 lx58 p307 y272 y273 y275 y276 f277 y280 y281 f282 y285 y286 f287 p346 = (F_NH_decimal_abt x2 x3 x4 x5 t0_0 t0_1 t1_0 t1_1 t2_0 t3_0 t3_1 t4_0 t5_0 t5_1 t6_0 t7_0 t7_1 t8_0 t9_0 t9_1 t10_0 t11_0 t11_1 t12_0 t12_1 t13_0) from Eq.trans (by rw [e347, e319, e318, e317, e316, e315, e314, e313, e312, e311, e310, e309, F_NH_decimal_abt_c133_4.eq_1]) hR320)
                have hS358 := (show True ∧ S_NH_decimal_abt_c139_5 x2 x3 x4 x5 t0_0 t0_1 t1_0 t1_1 t2_0 t3_0 t3_1 t4_0 t5_0 t5_1 t6_0 t7_0 t7_1 t8_0 t9_0 t9_1 t10_0 t11_0 t11_1 t12_0 t12_1 t13_0 lx58 p307 y272 y273 y275 y276 f277 y280 y281 f282 y285 y286 f287 p346 from (by rw [e347, e319, e318, e317, e316, e315, e314, e313, e312, e311, e310, e309]; have h := hS321; rw [S_NH_decimal_abt_c133_4.eq_1] at h; replace h := q_s2 h; with_reducible exact h))
                exact q_outT hno C0 V (⟨p346.1, (he343.trans (congrArg qE ((congrArg (fun z => z.1) (hE341.trans e347.symm)) : cx342 = _))), c348, hI, hF, y272, y273, y275, y276, f277, y280, y281, f282, y285, y286, f287, y329, y330, f331, y334, y335, y337, y338, f339, hO271, hO274, hA278, hO279, hA283, hO284, hA288, hO328, hA332, hO333, hO336, hA340, (show (p346.1, y272, y273, y275, y276, f277, y280, y281, f282, y285, y286, f287, y329, y330, f331, y334, y335, y337, y338, f339) = (F_NH_decimal_abt x2 x3 x4 x5 t0_0 t0_1 t1_0 t1_1 t2_0 t3_0 t3_1 t4_0 t5_0 t5_1 t6_0 t7_0 t7_1 t8_0 t9_0 t9_1 t10_0 t11_0 t11_1 t12_0 t12_1 t13_0) from Eq.trans (by rw [e356, e355, e354, e353, e352, e351, e350, e349, F_NH_decimal_abt_c139_5.eq_1, if_neg c348]) hR357)⟩) hce hcv hcl (Nat.le_of_ble_eq_true rfl) (Nat.le_of_ble_eq_true rfl)
              ·
                obtain ⟨hI, hZ9⟩ := hp327
                obtain ⟨hu400, hZ9⟩ := hZ9
                obtain ⟨y363, hZ9⟩ := hZ9
                obtain ⟨y364, hZ9⟩ := hZ9
                obtain ⟨f365, hZ9⟩ := hZ9
                obtain ⟨y368, hZ9⟩ := hZ9
                obtain ⟨y369, hZ9⟩ := hZ9
                obtain ⟨y371, hZ9⟩ := hZ9
                obtain ⟨y372, hZ9⟩ := hZ9
                obtain ⟨f373, hZ9⟩ := hZ9
                obtain ⟨hO362, hZ9⟩ := hZ9
                obtain ⟨hA366, hZ9⟩ := hZ9
                obtain ⟨hO367, hZ9⟩ := hZ9
                obtain ⟨hO370, hZ9⟩ := hZ9
                obtain ⟨hA374, hZ9⟩ := hZ9
                obtain ⟨b375, hZ9⟩ := hZ9
                obtain ⟨b376, hZ9⟩ := hZ9
                obtain ⟨b377, hZ9⟩ := hZ9
                obtain ⟨b378, hZ9⟩ := hZ9
                obtain ⟨b379, hZ9⟩ := hZ9
                obtain ⟨b380, hZ9⟩ := hZ9
                obtain ⟨b381, hZ9⟩ := hZ9
                obtain ⟨b382, hZ9⟩ := hZ9
                obtain ⟨b383, hZ9⟩ := hZ9
                obtain ⟨b384, hZ9⟩ := hZ9
                obtain ⟨b385, hZ9⟩ := hZ9
                obtain ⟨b386, hZ9⟩ := hZ9
                obtain ⟨b387, hZ9⟩ := hZ9
                obtain ⟨b388, hZ9⟩ := hZ9
                obtain ⟨b389, hZ9⟩ := hZ9
                obtain ⟨b390, hZ9⟩ := hZ9
                obtain ⟨b391, hZ9⟩ := hZ9
                obtain ⟨b392, hZ9⟩ := hZ9
                obtain ⟨b393, hZ9⟩ := hZ9
                obtain ⟨b394, hZ9⟩ := hZ9
                obtain ⟨b395, hZ9⟩ := hZ9
                obtain ⟨b396, hZ9⟩ := hZ9
                obtain ⟨b397, hZ9⟩ := hZ9
                obtain ⟨b398, hE399⟩ := hZ9
                replace hO362 : u326[20]? = (some (q 20, .inr (2, [.ref (q 21), .int y363, .int y364])) : Option (Nat × va_E)) := hO362
                replace hA366 : u326[21]? = (some (q 21, .inl (g 0, (220 : Int32).toNatClampNeg, .inl f365)) : Option (Nat × va_E)) := hA366
                replace hO367 : u326[d3]? = (some (q d3, .inr (3, [.ref (q (d3 + 1)), .int y368, .int y369])) : Option (Nat × va_E)) := hO367
                replace hO370 : u326[d3 + 1]? = (some (q (d3 + 1), .inr (2, [.ref (q (d3 + 2)), .int y371, .int y372])) : Option (Nat × va_E)) := hO370
                replace hA374 : u326[d3 + 2]? = (some (q (d3 + 2), .inl (g 0, (108 : Int32).toNatClampNeg, .inl f373)) : Option (Nat × va_E)) := hA374
                obtain ⟨p346, e347⟩ : ∃ z, z = (F_NH_keepDecimal x5 y272 y273 y275 y276 f277 t9_0 t9_1 t10_0 t11_0 t11_1 t12_0 t12_1 t13_0) := ⟨_, rfl⟩
                have c348 : p346.1 = (0 : Int32) := ((congrArg (fun z => z.1) (hE399.trans e347.symm)) : (0 : Int32) = _).symm
                have e402 : y363 = p346.2.1 := congrArg (fun z => z.2.1) (hE399.trans e347.symm)
                have e403 : y364 = p346.2.2.1 := congrArg (fun z => z.2.2.1) (hE399.trans e347.symm)
                have e404 : f365 = p346.2.2.2.1 := congrArg (fun z => z.2.2.2.1) (hE399.trans e347.symm)
                have e405 : y368 = p346.2.2.2.2.1 := congrArg (fun z => z.2.2.2.2.1) (hE399.trans e347.symm)
                have e406 : y369 = p346.2.2.2.2.2.1 := congrArg (fun z => z.2.2.2.2.2.1) (hE399.trans e347.symm)
                have e407 : y371 = p346.2.2.2.2.2.2.1 := congrArg (fun z => z.2.2.2.2.2.2.1) (hE399.trans e347.symm)
                have e408 : y372 = p346.2.2.2.2.2.2.2.1 := congrArg (fun z => z.2.2.2.2.2.2.2.1) (hE399.trans e347.symm)
                have e409 : f373 = p346.2.2.2.2.2.2.2.2 := congrArg (fun z => z.2.2.2.2.2.2.2.2) (hE399.trans e347.symm)
                replace b375 : q_F (0 ≤ y363.toInt) := b375
                replace b376 : q_F (y363.toInt ≤ 220) := b376
                replace b377 : q_F (0 ≤ y364.toInt) := b377
                replace b378 : q_F (y364.toInt ≤ 1) := b378
                replace b379 : q_F (0 ≤ y368.toInt + 10000) := b379
                replace b380 : q_F (y368.toInt ≤ 10000) := b380
                replace b381 : q_F (1 ≤ y369.toInt) := b381
                replace b382 : q_F (y369.toInt ≤ 1000) := b382
                replace b383 : q_F (0 ≤ y371.toInt) := b383
                replace b384 : q_F (y371.toInt ≤ 108) := b384
                replace b385 : q_F (0 ≤ y372.toInt) := b385
                replace b386 : q_F (y372.toInt ≤ 1) := b386
                replace b387 : q_F (x5.toInt ≤ y363.toInt + 9) := b387
                replace b388 : q_F (y363.toInt ≤ x5.toInt + 220) := b388
                replace b389 : q_F (x5.toInt ≤ y364.toInt + 9) := b389
                replace b390 : q_F (y364.toInt ≤ x5.toInt + 1) := b390
                replace b391 : q_F (x5.toInt ≤ y368.toInt + 10009) := b391
                replace b392 : q_F (y368.toInt ≤ x5.toInt + 10000) := b392
                replace b393 : q_F (x5.toInt ≤ y369.toInt + 8) := b393
                replace b394 : q_F (y369.toInt ≤ x5.toInt + 1000) := b394
                replace b395 : q_F (x5.toInt ≤ y371.toInt + 9) := b395
                replace b396 : q_F (y371.toInt ≤ x5.toInt + 108) := b396
                replace b397 : q_F (x5.toInt ≤ y372.toInt + 9) := b397
                replace b398 : q_F (y372.toInt ≤ x5.toInt + 1) := b398
                replace hO271 := (hu400 _ (by have z0 := yd3; simp only [List.mem_cons, List.not_mem_nil, or_false, not_or]; omega)).trans hO271
                replace hO274 := (hu400 _ (by have z0 := yd3; simp only [List.mem_cons, List.not_mem_nil, or_false, not_or]; omega)).trans hO274
                replace hA278 := (hu400 _ (by have z0 := yd3; simp only [List.mem_cons, List.not_mem_nil, or_false, not_or]; omega)).trans hA278
                replace hO279 := (hu400 _ (by have z0 := yd3; simp only [List.mem_cons, List.not_mem_nil, or_false, not_or]; omega)).trans hO279
                replace hA283 := (hu400 _ (by have z0 := yd3; simp only [List.mem_cons, List.not_mem_nil, or_false, not_or]; omega)).trans hA283
                replace hO284 := (hu400 _ (by have z0 := yd3; simp only [List.mem_cons, List.not_mem_nil, or_false, not_or]; omega)).trans hO284
                replace hA288 := (hu400 _ (by have z0 := yd3; simp only [List.mem_cons, List.not_mem_nil, or_false, not_or]; omega)).trans hA288
                replace hF := q_uc hF hu400 (by simp)
                have hR357 := (show F_NH_decimal_abt_c139_5 x2 x3 x4 x5 t0_0 t0_1 t1_0 t1_1 t2_0 t3_0 t3_1 t4_0 t5_0 t5_1 t6_0 t7_0 t7_1 t8_0 t9_0 t9_1 t10_0 t11_0 t11_1 t12_0 t12_1 t13_0 lx58 p307 y272 y273 y275 y276 f277 y280 y281 f282 y285 y286 f287 p346 = (F_NH_decimal_abt x2 x3 x4 x5 t0_0 t0_1 t1_0 t1_1 t2_0 t3_0 t3_1 t4_0 t5_0 t5_1 t6_0 t7_0 t7_1 t8_0 t9_0 t9_1 t10_0 t11_0 t11_1 t12_0 t12_1 t13_0) from Eq.trans (by rw [e347, e319, e318, e317, e316, e315, e314, e313, e312, e311, e310, e309, F_NH_decimal_abt_c133_4.eq_1]) hR320)
                have hS358 := (show True ∧ S_NH_decimal_abt_c139_5 x2 x3 x4 x5 t0_0 t0_1 t1_0 t1_1 t2_0 t3_0 t3_1 t4_0 t5_0 t5_1 t6_0 t7_0 t7_1 t8_0 t9_0 t9_1 t10_0 t11_0 t11_1 t12_0 t12_1 t13_0 lx58 p307 y272 y273 y275 y276 f277 y280 y281 f282 y285 y286 f287 p346 from (by rw [e347, e319, e318, e317, e316, e315, e314, e313, e312, e311, e310, e309]; have h := hS321; rw [S_NH_decimal_abt_c133_4.eq_1] at h; replace h := q_s2 h; with_reducible exact h))
                exact q_retX (q_retv C0 V (⟨hI, hF, y272, y273, y275, y276, f277, y280, y281, f282, y285, y286, f287, y363, y364, f365, y368, y369, y371, y372, f373, hO271, hO274, hA278, hO279, hA283, hO284, hA288, hO362, hA366, hO367, hO370, hA374, (show 0 ≤ y272.toInt + 20000 from (by have t1 : -10000 ≤ t11_0.toInt ∧ t11_0.toInt ≤ 10000 := btt11_0; have t2 : t11_0.toInt ≤ y272.toInt := b298; omega)), (show y272.toInt ≤ 20000 from (by have t1 : -10000 ≤ t11_0.toInt ∧ t11_0.toInt ≤ 10000 := btt11_0; have t2 : y272.toInt ≤ t11_0.toInt := b299; omega)), (show 0 ≤ y273.toInt from (by have t1 : 0 ≤ t0_1.toInt ∧ t0_1.toInt ≤ 1 := btt0_1; have t2 : t0_1.toInt ≤ y273.toInt := b300; omega)), (show y273.toInt ≤ 1 from (by have t1 : 0 ≤ t0_1.toInt ∧ t0_1.toInt ≤ 1 := btt0_1; have t2 : y273.toInt ≤ t0_1.toInt := b301; omega)), (show 0 ≤ y275.toInt from (by first | with_reducible exact q_fe b289 | (have t1 : 0 ≤ y275.toInt := b289; omega))), (show y275.toInt ≤ 220 from (by first | with_reducible exact q_fe b290 | (have t1 : y275.toInt ≤ 220 := b290; omega))), (show 0 ≤ y276.toInt from (by first | with_reducible exact q_fe b291 | (have t1 : 0 ≤ y276.toInt := b291; omega))), (show y276.toInt ≤ 1 from (by have t1 : 0 ≤ t12_1.toInt ∧ t12_1.toInt ≤ 1 := btt12_1; have t2 : y276.toInt ≤ t12_1.toInt := b302; omega)), (show 0 ≤ y280.toInt from (by first | with_reducible exact q_fe b292 | (have t1 : 0 ≤ y280.toInt := b292; omega))), (show y280.toInt ≤ 220 from (by first | with_reducible exact q_fe b293 | (have t1 : y280.toInt ≤ 220 := b293; omega))), (show 0 ≤ y281.toInt from (by first | with_reducible exact q_fe b294 | (have t1 : 0 ≤ y281.toInt := b294; omega))), (show y281.toInt ≤ 1 from (by have t1 : 0 ≤ t3_1.toInt ∧ t3_1.toInt ≤ 1 := btt3_1; have t2 : y281.toInt ≤ t3_1.toInt := b303; omega)), (show 0 ≤ y285.toInt from (by first | with_reducible exact q_fe b295 | (have t1 : 0 ≤ y285.toInt := b295; omega))), (show y285.toInt ≤ 220 from (by first | with_reducible exact q_fe b296 | (have t1 : y285.toInt ≤ 220 := b296; omega))), (show 0 ≤ y286.toInt from (by first | with_reducible exact q_fe b297 | (have t1 : 0 ≤ y286.toInt := b297; omega))), (show y286.toInt ≤ 2 from (by have t1 : 0 ≤ t12_1.toInt ∧ t12_1.toInt ≤ 1 := btt12_1; have t2 : y276.toInt ≤ t12_1.toInt := b302; have t3 : y286.toInt ≤ y276.toInt + 1 := b304; omega)), (show 0 ≤ y363.toInt from (by first | with_reducible exact q_fe b375 | (have t1 : 0 ≤ y363.toInt := b375; omega))), (show y363.toInt ≤ 220 from (by first | with_reducible exact q_fe b376 | (have t1 : y363.toInt ≤ 220 := b376; omega))), (show 0 ≤ y364.toInt from (by first | with_reducible exact q_fe b377 | (have t1 : 0 ≤ y364.toInt := b377; omega))), (show y364.toInt ≤ 1 from (by first | with_reducible exact q_fe b378 | (have t1 : y364.toInt ≤ 1 := b378; omega))), (show 0 ≤ y368.toInt + 10000 from (by first | with_reducible exact q_fe b379 | (have t1 : 0 ≤ y368.toInt + 10000 := b379; omega))), (show y368.toInt ≤ 10000 from (by first | with_reducible exact q_fe b380 | (have t1 : y368.toInt ≤ 10000 := b380; omega))), (show 1 ≤ y369.toInt from (by first | with_reducible exact q_fe b381 | (have t1 : 1 ≤ y369.toInt := b381; omega))), (show y369.toInt ≤ 1000 from (by first | with_reducible exact q_fe b382 | (have t1 : y369.toInt ≤ 1000 := b382; omega))), (show 0 ≤ y371.toInt from (by first | with_reducible exact q_fe b383 | (have t1 : 0 ≤ y371.toInt := b383; omega))), (show y371.toInt ≤ 108 from (by first | with_reducible exact q_fe b384 | (have t1 : y371.toInt ≤ 108 := b384; omega))), (show 0 ≤ y372.toInt from (by first | with_reducible exact q_fe b385 | (have t1 : 0 ≤ y372.toInt := b385; omega))), (show y372.toInt ≤ 1 from (by first | with_reducible exact q_fe b386 | (have t1 : y372.toInt ≤ 1 := b386; omega))), (show x3.toInt ≤ y272.toInt + 20009 from (by have t1 : -10000 ≤ t11_0.toInt ∧ t11_0.toInt ≤ 10000 := btt11_0; have t2 : x3.toInt ≤ 9 := ob93; have t3 : t11_0.toInt ≤ y272.toInt := b298; omega)), (show y272.toInt ≤ x3.toInt + 20000 from (by have t1 : -10000 ≤ t11_0.toInt ∧ t11_0.toInt ≤ 10000 := btt11_0; have t2 : 0 ≤ x3.toInt := ob92; have t3 : y272.toInt ≤ t11_0.toInt := b299; omega)), (show x4.toInt ≤ y272.toInt + 20009 from (by have t1 : -10000 ≤ t11_0.toInt ∧ t11_0.toInt ≤ 10000 := btt11_0; have t2 : x4.toInt ≤ 9 := ob98; have t3 : t11_0.toInt ≤ y272.toInt := b298; omega)), (show y272.toInt ≤ x4.toInt + 20000 from (by have t1 : -10000 ≤ t11_0.toInt ∧ t11_0.toInt ≤ 10000 := btt11_0; have t2 : 0 ≤ x4.toInt := ob97; have t3 : y272.toInt ≤ t11_0.toInt := b299; omega)), (show t11_0.toInt ≤ y272.toInt + 10000 from (by first | with_reducible exact q_fe b298 | (have t1 : t11_0.toInt ≤ y272.toInt := b298; omega))), (show y272.toInt ≤ t11_0.toInt + 20000 from (by first | with_reducible exact q_fe b299 | (have t1 : y272.toInt ≤ t11_0.toInt := b299; omega))), (show x3.toInt ≤ y273.toInt + 9 from (by have t1 : 0 ≤ t0_1.toInt ∧ t0_1.toInt ≤ 1 := btt0_1; have t2 : x3.toInt ≤ 9 := ob93; have t3 : t0_1.toInt ≤ y273.toInt := b300; omega)), (show y273.toInt ≤ x3.toInt + 1 from (by have t1 : 0 ≤ t0_1.toInt ∧ t0_1.toInt ≤ 1 := btt0_1; have t2 : 0 ≤ x3.toInt := ob92; have t3 : y273.toInt ≤ t0_1.toInt := b301; omega)), (show x4.toInt ≤ y273.toInt + 9 from (by have t1 : 0 ≤ t0_1.toInt ∧ t0_1.toInt ≤ 1 := btt0_1; have t2 : x4.toInt ≤ 9 := ob98; have t3 : t0_1.toInt ≤ y273.toInt := b300; omega)), (show y273.toInt ≤ x4.toInt + 1 from (by have t1 : 0 ≤ t0_1.toInt ∧ t0_1.toInt ≤ 1 := btt0_1; have t2 : 0 ≤ x4.toInt := ob97; have t3 : y273.toInt ≤ t0_1.toInt := b301; omega)), (show t0_1.toInt ≤ y273.toInt from (by first | with_reducible exact q_fe b300 | (have t1 : t0_1.toInt ≤ y273.toInt := b300; omega))), (show y273.toInt ≤ t0_1.toInt from (by first | with_reducible exact q_fe b301 | (have t1 : y273.toInt ≤ t0_1.toInt := b301; omega))), (show x3.toInt ≤ y275.toInt + 9 from (by have t1 : x3.toInt ≤ 9 := ob93; have t2 : 0 ≤ y275.toInt := b289; omega)), (show y275.toInt ≤ x3.toInt + 220 from (by have t1 : 0 ≤ x3.toInt := ob92; have t2 : y275.toInt ≤ 220 := b290; omega)), (show x4.toInt ≤ y275.toInt + 9 from (by have t1 : x4.toInt ≤ 9 := ob98; have t2 : 0 ≤ y275.toInt := b289; omega)), (show y275.toInt ≤ x4.toInt + 220 from (by have t1 : 0 ≤ x4.toInt := ob97; have t2 : y275.toInt ≤ 220 := b290; omega)), (show x3.toInt ≤ y276.toInt + 9 from (by have t1 : x3.toInt ≤ 9 := ob93; have t2 : 0 ≤ y276.toInt := b291; omega)), (show y276.toInt ≤ x3.toInt + 1 from (by have t1 : 0 ≤ t12_1.toInt ∧ t12_1.toInt ≤ 1 := btt12_1; have t2 : 0 ≤ x3.toInt := ob92; have t3 : y276.toInt ≤ t12_1.toInt := b302; omega)), (show x4.toInt ≤ y276.toInt + 9 from (by have t1 : x4.toInt ≤ 9 := ob98; have t2 : 0 ≤ y276.toInt := b291; omega)), (show y276.toInt ≤ x4.toInt + 1 from (by have t1 : 0 ≤ t12_1.toInt ∧ t12_1.toInt ≤ 1 := btt12_1; have t2 : 0 ≤ x4.toInt := ob97; have t3 : y276.toInt ≤ t12_1.toInt := b302; omega)), (show x3.toInt ≤ y280.toInt + 9 from (by have t1 : x3.toInt ≤ 9 := ob93; have t2 : 0 ≤ y280.toInt := b292; omega)), (show y280.toInt ≤ x3.toInt + 220 from (by have t1 : 0 ≤ x3.toInt := ob92; have t2 : y280.toInt ≤ 220 := b293; omega)), (show x4.toInt ≤ y280.toInt + 9 from (by have t1 : x4.toInt ≤ 9 := ob98; have t2 : 0 ≤ y280.toInt := b292; omega)), (show y280.toInt ≤ x4.toInt + 220 from (by have t1 : 0 ≤ x4.toInt := ob97; have t2 : y280.toInt ≤ 220 := b293; omega)), (show x3.toInt ≤ y281.toInt + 9 from (by have t1 : x3.toInt ≤ 9 := ob93; have t2 : 0 ≤ y281.toInt := b294; omega)), (show y281.toInt ≤ x3.toInt + 1 from (by have t1 : 0 ≤ t3_1.toInt ∧ t3_1.toInt ≤ 1 := btt3_1; have t2 : 0 ≤ x3.toInt := ob92; have t3 : y281.toInt ≤ t3_1.toInt := b303; omega)), (show x4.toInt ≤ y281.toInt + 9 from (by have t1 : x4.toInt ≤ 9 := ob98; have t2 : 0 ≤ y281.toInt := b294; omega)), (show y281.toInt ≤ x4.toInt + 1 from (by have t1 : 0 ≤ t3_1.toInt ∧ t3_1.toInt ≤ 1 := btt3_1; have t2 : 0 ≤ x4.toInt := ob97; have t3 : y281.toInt ≤ t3_1.toInt := b303; omega)), (show y281.toInt ≤ t3_1.toInt from (by first | with_reducible exact q_fe b303 | (have t1 : y281.toInt ≤ t3_1.toInt := b303; omega))), (show x3.toInt ≤ y285.toInt + 9 from (by have t1 : x3.toInt ≤ 9 := ob93; have t2 : 0 ≤ y285.toInt := b295; omega)), (show y285.toInt ≤ x3.toInt + 220 from (by have t1 : 0 ≤ x3.toInt := ob92; have t2 : y285.toInt ≤ 220 := b296; omega)), (show x4.toInt ≤ y285.toInt + 9 from (by have t1 : x4.toInt ≤ 9 := ob98; have t2 : 0 ≤ y285.toInt := b295; omega)), (show y285.toInt ≤ x4.toInt + 220 from (by have t1 : 0 ≤ x4.toInt := ob97; have t2 : y285.toInt ≤ 220 := b296; omega)), (show x3.toInt ≤ y286.toInt + 9 from (by have t1 : x3.toInt ≤ 9 := ob93; have t2 : 0 ≤ y286.toInt := b297; omega)), (show x4.toInt ≤ y286.toInt + 9 from (by have t1 : x4.toInt ≤ 9 := ob98; have t2 : 0 ≤ y286.toInt := b297; omega)), (show y286.toInt ≤ t12_1.toInt + 1 from (by have t1 : y276.toInt ≤ t12_1.toInt := b302; have t2 : y286.toInt ≤ y276.toInt + 1 := b304; omega)), (show x3.toInt ≤ y363.toInt + 9 from (by have t1 : x3.toInt ≤ 9 := ob93; have t2 : 0 ≤ y363.toInt := b375; omega)), (show y363.toInt ≤ x3.toInt + 220 from (by have t1 : 0 ≤ x3.toInt := ob92; have t2 : y363.toInt ≤ 220 := b376; omega)), (show x4.toInt ≤ y363.toInt + 9 from (by have t1 : x4.toInt ≤ 9 := ob98; have t2 : 0 ≤ y363.toInt := b375; omega)), (show y363.toInt ≤ x4.toInt + 220 from (by have t1 : 0 ≤ x4.toInt := ob97; have t2 : y363.toInt ≤ 220 := b376; omega)), (show x5.toInt ≤ y363.toInt + 9 from (by first | with_reducible exact q_fe b387 | (have t1 : x5.toInt ≤ y363.toInt + 9 := b387; omega))), (show y363.toInt ≤ x5.toInt + 220 from (by first | with_reducible exact q_fe b388 | (have t1 : y363.toInt ≤ x5.toInt + 220 := b388; omega))), (show x3.toInt ≤ y364.toInt + 9 from (by have t1 : x3.toInt ≤ 9 := ob93; have t2 : 0 ≤ y364.toInt := b377; omega)), (show y364.toInt ≤ x3.toInt + 1 from (by have t1 : 0 ≤ x3.toInt := ob92; have t2 : y364.toInt ≤ 1 := b378; omega)), (show x4.toInt ≤ y364.toInt + 9 from (by have t1 : x4.toInt ≤ 9 := ob98; have t2 : 0 ≤ y364.toInt := b377; omega)), (show y364.toInt ≤ x4.toInt + 1 from (by have t1 : 0 ≤ x4.toInt := ob97; have t2 : y364.toInt ≤ 1 := b378; omega)), (show x5.toInt ≤ y364.toInt + 9 from (by first | with_reducible exact q_fe b389 | (have t1 : x5.toInt ≤ y364.toInt + 9 := b389; omega))), (show y364.toInt ≤ x5.toInt + 1 from (by first | with_reducible exact q_fe b390 | (have t1 : y364.toInt ≤ x5.toInt + 1 := b390; omega))), (show x3.toInt ≤ y368.toInt + 10009 from (by have t1 : x3.toInt ≤ 9 := ob93; have t2 : 0 ≤ y368.toInt + 10000 := b379; omega)), (show y368.toInt ≤ x3.toInt + 10000 from (by have t1 : 0 ≤ x3.toInt := ob92; have t2 : y368.toInt ≤ 10000 := b380; omega)), (show x4.toInt ≤ y368.toInt + 10009 from (by have t1 : x4.toInt ≤ 9 := ob98; have t2 : 0 ≤ y368.toInt + 10000 := b379; omega)), (show y368.toInt ≤ x4.toInt + 10000 from (by have t1 : 0 ≤ x4.toInt := ob97; have t2 : y368.toInt ≤ 10000 := b380; omega)), (show x5.toInt ≤ y368.toInt + 10009 from (by first | with_reducible exact q_fe b391 | (have t1 : x5.toInt ≤ y368.toInt + 10009 := b391; omega))), (show y368.toInt ≤ x5.toInt + 10000 from (by first | with_reducible exact q_fe b392 | (have t1 : y368.toInt ≤ x5.toInt + 10000 := b392; omega))), (show x3.toInt ≤ y369.toInt + 8 from (by have t1 : x3.toInt ≤ 9 := ob93; have t2 : 1 ≤ y369.toInt := b381; omega)), (show y369.toInt ≤ x3.toInt + 1000 from (by have t1 : 0 ≤ x3.toInt := ob92; have t2 : y369.toInt ≤ 1000 := b382; omega)), (show x4.toInt ≤ y369.toInt + 8 from (by have t1 : x4.toInt ≤ 9 := ob98; have t2 : 1 ≤ y369.toInt := b381; omega)), (show y369.toInt ≤ x4.toInt + 1000 from (by have t1 : 0 ≤ x4.toInt := ob97; have t2 : y369.toInt ≤ 1000 := b382; omega)), (show x5.toInt ≤ y369.toInt + 8 from (by first | with_reducible exact q_fe b393 | (have t1 : x5.toInt ≤ y369.toInt + 8 := b393; omega))), (show y369.toInt ≤ x5.toInt + 1000 from (by first | with_reducible exact q_fe b394 | (have t1 : y369.toInt ≤ x5.toInt + 1000 := b394; omega))), (show x3.toInt ≤ y371.toInt + 9 from (by have t1 : x3.toInt ≤ 9 := ob93; have t2 : 0 ≤ y371.toInt := b383; omega)), (show y371.toInt ≤ x3.toInt + 108 from (by have t1 : 0 ≤ x3.toInt := ob92; have t2 : y371.toInt ≤ 108 := b384; omega)), (show x4.toInt ≤ y371.toInt + 9 from (by have t1 : x4.toInt ≤ 9 := ob98; have t2 : 0 ≤ y371.toInt := b383; omega)), (show y371.toInt ≤ x4.toInt + 108 from (by have t1 : 0 ≤ x4.toInt := ob97; have t2 : y371.toInt ≤ 108 := b384; omega)), (show x5.toInt ≤ y371.toInt + 9 from (by first | with_reducible exact q_fe b395 | (have t1 : x5.toInt ≤ y371.toInt + 9 := b395; omega))), (show y371.toInt ≤ x5.toInt + 108 from (by first | with_reducible exact q_fe b396 | (have t1 : y371.toInt ≤ x5.toInt + 108 := b396; omega))), (show x3.toInt ≤ y372.toInt + 9 from (by have t1 : x3.toInt ≤ 9 := ob93; have t2 : 0 ≤ y372.toInt := b385; omega)), (show y372.toInt ≤ x3.toInt + 1 from (by have t1 : 0 ≤ x3.toInt := ob92; have t2 : y372.toInt ≤ 1 := b386; omega)), (show x4.toInt ≤ y372.toInt + 9 from (by have t1 : x4.toInt ≤ 9 := ob98; have t2 : 0 ≤ y372.toInt := b385; omega)), (show y372.toInt ≤ x4.toInt + 1 from (by have t1 : 0 ≤ x4.toInt := ob97; have t2 : y372.toInt ≤ 1 := b386; omega)), (show x5.toInt ≤ y372.toInt + 9 from (by first | with_reducible exact q_fe b397 | (have t1 : x5.toInt ≤ y372.toInt + 9 := b397; omega))), (show y372.toInt ≤ x5.toInt + 1 from (by first | with_reducible exact q_fe b398 | (have t1 : y372.toInt ≤ x5.toInt + 1 := b398; omega))), (show y286.toInt ≤ y272.toInt + 20001 from (by have t1 : -10000 ≤ t11_0.toInt ∧ t11_0.toInt ≤ 10000 := btt11_0; have t2 : 0 ≤ t12_1.toInt ∧ t12_1.toInt ≤ 1 := btt12_1; have t3 : t11_0.toInt ≤ y272.toInt := b298; have t4 : y276.toInt ≤ t12_1.toInt := b302; have t5 : y286.toInt ≤ y276.toInt + 1 := b304; omega)), (show y286.toInt ≤ y276.toInt + 1 from (by first | with_reducible exact q_fe b304 | (have t1 : y286.toInt ≤ y276.toInt + 1 := b304; omega))), (show ((0 : Int32), y272, y273, y275, y276, f277, y280, y281, f282, y285, y286, f287, y363, y364, f365, y368, y369, y371, y372, f373) = (F_NH_decimal_abt x2 x3 x4 x5 t0_0 t0_1 t1_0 t1_1 t2_0 t3_0 t3_1 t4_0 t5_0 t5_1 t6_0 t7_0 t7_1 t8_0 t9_0 t9_1 t10_0 t11_0 t11_1 t12_0 t12_1 t13_0) from Eq.trans (by rw [e409, e408, e407, e406, e405, e404, e403, e402, F_NH_decimal_abt_c139_5.eq_1, if_pos c348]) hR357)⟩) d_1_11_142)
        ·
          refine lv_aload_n hx hb d_1_11_92 rfl (lv_at hl 2 rfl) ?_
          refine q_get (ci := 0) (j := 7) (v := .ref (q 30)) C0 V i_NH rfl rfl hO90 (by decide) w_431 rfl d_1_11_93 ?_
          refine lv_aload hx hb d_1_11_96 (lv_at hl 1 rfl) ?_
          refine lv_aload hx hb d_1_11_98 (lv_at hl 0 rfl) ?_
          refine q_gov V (q_runV (As := [.ref (q d3), .ref (q d3)]) (rest := []) (d := 4) (mc := 0) (ms := 0) (ci := 5) C0 V rfl LV_NH_273 (X_DW_multiply l D g q ws d3 108 hBd3 (Or.inr yd3) d3 108 hBd3 (Or.inr yd3)  (by have z0 := yd3; omega) (by have z0 := yd3; omega) (by have z0 := yd3; omega) (by have z0 := yd3; omega) (by have z0 := yd3; omega) (by have z0 := yd3; omega) (by have z0 := yd3; omega) (by have z0 := yd3; omega) (by have z0 := yd3; omega) (by have z0 := yd3; omega) (by have z0 := yd3; omega) (by have z0 := yd3; omega) (by have z0 := yd3; omega) (by have z0 := yd3; omega) (by have z0 := yd3; omega) (by have z0 := yd3; omega) hI t0_0 t0_1 hT0 t1_0 t1_1 hT1 t2_0 hT2 t11_0 t11_1 hT11 t12_0 t12_1 hT12 t13_0 hT13 t11_0 t11_1 hT11 t12_0 t12_1 hT12 t13_0 hT13  _) rfl rfl hT0 rfl hl.1 rfl (Nat.le_of_ble_eq_true rfl) ⟨by decide, by decide⟩ ⟨Nat.le_of_ble_eq_true rfl, Nat.le_of_ble_eq_true rfl⟩ d_1_11_100) (fun u411 H locs hp412 V => ?_)
          obtain ⟨hI, hZ9⟩ := hp412
          obtain ⟨hu432, hZ9⟩ := hZ9
          obtain ⟨y414, hZ9⟩ := hZ9
          obtain ⟨y415, hZ9⟩ := hZ9
          obtain ⟨y417, hZ9⟩ := hZ9
          obtain ⟨y418, hZ9⟩ := hZ9
          obtain ⟨f419, hZ9⟩ := hZ9
          obtain ⟨hO413, hZ9⟩ := hZ9
          obtain ⟨hO416, hZ9⟩ := hZ9
          obtain ⟨hA420, hZ9⟩ := hZ9
          obtain ⟨b421, hZ9⟩ := hZ9
          obtain ⟨b422, hZ9⟩ := hZ9
          obtain ⟨b423, hZ9⟩ := hZ9
          obtain ⟨b424, hZ9⟩ := hZ9
          obtain ⟨b425, hZ9⟩ := hZ9
          replace hZ9 := hZ9.2.2
          obtain ⟨b428, hZ9⟩ := hZ9
          obtain ⟨b429, hZ9⟩ := hZ9
          obtain ⟨b430, hE431⟩ := hZ9
          replace hO413 : u411[30]? = (some (q 30, .inr (5, [.ref (q 31), .long y414, .ref (q 9), .int y415])) : Option (Nat × va_E)) := hO413
          replace hO416 : u411[10]? = (some (q 10, .inr (2, [.ref (q 11), .int y417, .int y418])) : Option (Nat × va_E)) := hO416
          replace hA420 : u411[11]? = (some (q 11, .inl (g 0, (220 : Int32).toNatClampNeg, .inl f419)) : Option (Nat × va_E)) := hA420
          obtain ⟨p433, e434⟩ : ∃ z, z = (F_DW_multiply (108 : Int32) (108 : Int32) t0_0 t0_1 t1_0 t1_1 t2_0 t11_0 t11_1 t12_0 t12_1 t13_0 t11_0 t11_1 t12_0 t12_1 t13_0) := ⟨_, rfl⟩
          have e435 : y414 = p433.1 := congrArg (fun z => z.1) (hE431.trans e434.symm)
          have e436 : y415 = p433.2.1 := congrArg (fun z => z.2.1) (hE431.trans e434.symm)
          have e437 : y417 = p433.2.2.1 := congrArg (fun z => z.2.2.1) (hE431.trans e434.symm)
          have e438 : y418 = p433.2.2.2.1 := congrArg (fun z => z.2.2.2.1) (hE431.trans e434.symm)
          have e439 : f419 = p433.2.2.2.2 := congrArg (fun z => z.2.2.2.2) (hE431.trans e434.symm)
          replace b421 : q_F (y417.toInt ≤ 220) := b421
          replace b422 : q_F (0 ≤ y418.toInt) := b422
          replace b423 : q_F (y418.toInt ≤ 1) := b423
          replace b424 : q_F (t11_0.toInt ≤ y414.toInt + 10000) := b424
          replace b425 : q_F (y414.toInt ≤ t11_0.toInt + 10000) := b425
          replace b428 : q_F (t0_1.toInt ≤ y415.toInt) := b428
          replace b429 : q_F (y415.toInt ≤ t0_1.toInt) := b429
          replace b430 : q_F (y418.toInt ≤ y417.toInt) := b430
          replace hT3 := (hu432 _ (by decide)).trans hT3
          replace hT4 := (hu432 _ (by decide)).trans hT4
          replace hT5 := (hu432 _ (by decide)).trans hT5
          replace hT6 := (hu432 _ (by decide)).trans hT6
          replace hT9 := (hu432 _ (by decide)).trans hT9
          replace hT10 := (hu432 _ (by decide)).trans hT10
          replace hT11 := (hu432 _ (by have z0 := yd3; simp only [List.mem_cons, List.not_mem_nil, or_false, not_or]; omega)).trans hT11
          replace hT12 := (hu432 _ (by have z0 := yd3; simp only [List.mem_cons, List.not_mem_nil, or_false, not_or]; omega)).trans hT12
          replace hT13 := (hu432 _ (by have z0 := yd3; simp only [List.mem_cons, List.not_mem_nil, or_false, not_or]; omega)).trans hT13
          replace hO90 := (hu432 _ (by decide)).trans hO90
          replace hF := q_uc hF hu432 (by simp)
          have hR440 := (show F_NH_decimal_abt_c100 x2 x3 x4 x5 t0_0 t0_1 t1_0 t1_1 t2_0 t3_0 t3_1 t4_0 t5_0 t5_1 t6_0 t7_0 t7_1 t8_0 t9_0 t9_1 t10_0 t11_0 t11_1 t12_0 t12_1 t13_0 lx58 p433 = (F_NH_decimal_abt x2 x3 x4 x5 t0_0 t0_1 t1_0 t1_1 t2_0 t3_0 t3_1 t4_0 t5_0 t5_1 t6_0 t7_0 t7_1 t8_0 t9_0 t9_1 t10_0 t11_0 t11_1 t12_0 t12_1 t13_0) from Eq.trans (by rw [e434, F_NH_decimal_abt_J36.eq_1, if_pos c87, if_pos c101, if_pos c103]) hR76)
          have hS441 := (show True ∧ S_NH_decimal_abt_c100 x2 x3 x4 x5 t0_0 t0_1 t1_0 t1_1 t2_0 t3_0 t3_1 t4_0 t5_0 t5_1 t6_0 t7_0 t7_1 t8_0 t9_0 t9_1 t10_0 t11_0 t11_1 t12_0 t12_1 t13_0 lx58 p433 from (by rw [e434]; have h := hS77; rw [S_NH_decimal_abt_J36.eq_1] at h; rw [if_pos c87] at h; replace h := q_s2 h; replace h := q_s2 h; replace h := q_s2 h; replace h := q_s2 h; rw [if_pos c101] at h; rw [if_pos c103] at h; with_reducible exact h))
          refine lv_goto (tgt := 136) hx hb d_1_11_103 (by decide) ?_
          refine lv_aload_n hx hb d_1_11_136 rfl (lv_at hl 2 rfl) ?_
          refine lv_iload hx hb d_1_11_137 (lv_at hl 6 rfl) ?_
          have ob445 : True ∧ S_NH_keepDecimal x5 y414 y415 y417 y418 f419 t9_0 t9_1 t10_0 t11_0 t11_1 t12_0 t12_1 t13_0 := (by rw [e439, e438, e437, e436, e435]; have h := hS441; rw [S_NH_decimal_abt_c100.eq_1] at h; with_reducible exact h.2.1)
          refine q_goxv V (q_runVX (As := [.int x5]) (rest := []) (d := 8) (mc := 1) (ms := 6) (ci := 0) C0 V rfl LV_NH_281 (X_NH_keepDecimal l D g q u411  x5 d3 hBd3 yd3 gd3x5 hlt hI y414 y415 hO413 y417 y418 hO416 f419 hA420 t9_0 t9_1 hT9 t10_0 hT10 t11_0 t11_1 hT11 t12_0 t12_1 hT12 t13_0 hT13 ob445 _) rfl rfl hO90 rfl hl.1 rfl (Nat.le_of_ble_eq_true rfl) ⟨by decide, by decide⟩ ⟨Nat.le_of_ble_eq_true rfl, Nat.le_of_ble_eq_true rfl⟩ d_1_11_139) (fun qx Ex ce u446 H locs hp447 V hce hcv hcl => ?_) (fun u446 H locs hp447 V => ?_)
          ·
            obtain ⟨cx462, hZ9⟩ := hp447
            obtain ⟨he463, hZ9⟩ := hZ9
            obtain ⟨hc464, hZ9⟩ := hZ9
            obtain ⟨hI, hZ9⟩ := hZ9
            obtain ⟨hu465, hZ9⟩ := hZ9
            obtain ⟨y449, hZ9⟩ := hZ9
            obtain ⟨y450, hZ9⟩ := hZ9
            obtain ⟨f451, hZ9⟩ := hZ9
            obtain ⟨y454, hZ9⟩ := hZ9
            obtain ⟨y455, hZ9⟩ := hZ9
            obtain ⟨y457, hZ9⟩ := hZ9
            obtain ⟨y458, hZ9⟩ := hZ9
            obtain ⟨f459, hZ9⟩ := hZ9
            obtain ⟨hO448, hZ9⟩ := hZ9
            obtain ⟨hA452, hZ9⟩ := hZ9
            obtain ⟨hO453, hZ9⟩ := hZ9
            obtain ⟨hO456, hZ9⟩ := hZ9
            obtain ⟨hA460, hE461⟩ := hZ9
            replace hO448 : u446[20]? = (some (q 20, .inr (2, [.ref (q 21), .int y449, .int y450])) : Option (Nat × va_E)) := hO448
            replace hA452 : u446[21]? = (some (q 21, .inl (g 0, (220 : Int32).toNatClampNeg, .inl f451)) : Option (Nat × va_E)) := hA452
            replace hO453 : u446[d3]? = (some (q d3, .inr (3, [.ref (q (d3 + 1)), .int y454, .int y455])) : Option (Nat × va_E)) := hO453
            replace hO456 : u446[d3 + 1]? = (some (q (d3 + 1), .inr (2, [.ref (q (d3 + 2)), .int y457, .int y458])) : Option (Nat × va_E)) := hO456
            replace hA460 : u446[d3 + 2]? = (some (q (d3 + 2), .inl (g 0, (108 : Int32).toNatClampNeg, .inl f459)) : Option (Nat × va_E)) := hA460
            obtain ⟨p466, e467⟩ : ∃ z, z = (F_NH_keepDecimal x5 y414 y415 y417 y418 f419 t9_0 t9_1 t10_0 t11_0 t11_1 t12_0 t12_1 t13_0) := ⟨_, rfl⟩
            have c468 : ¬ p466.1 = (0 : Int32) := fun z => hc464 (((congrArg (fun z => z.1) (hE461.trans e467.symm)) : cx462 = _).trans z)
            have e469 : y449 = p466.2.1 := congrArg (fun z => z.2.1) (hE461.trans e467.symm)
            have e470 : y450 = p466.2.2.1 := congrArg (fun z => z.2.2.1) (hE461.trans e467.symm)
            have e471 : f451 = p466.2.2.2.1 := congrArg (fun z => z.2.2.2.1) (hE461.trans e467.symm)
            have e472 : y454 = p466.2.2.2.2.1 := congrArg (fun z => z.2.2.2.2.1) (hE461.trans e467.symm)
            have e473 : y455 = p466.2.2.2.2.2.1 := congrArg (fun z => z.2.2.2.2.2.1) (hE461.trans e467.symm)
            have e474 : y457 = p466.2.2.2.2.2.2.1 := congrArg (fun z => z.2.2.2.2.2.2.1) (hE461.trans e467.symm)
            have e475 : y458 = p466.2.2.2.2.2.2.2.1 := congrArg (fun z => z.2.2.2.2.2.2.2.1) (hE461.trans e467.symm)
            have e476 : f459 = p466.2.2.2.2.2.2.2.2 := congrArg (fun z => z.2.2.2.2.2.2.2.2) (hE461.trans e467.symm)
            replace hO413 := (hu465 _ (by have z0 := yd3; simp only [List.mem_cons, List.not_mem_nil, or_false, not_or]; omega)).trans hO413
            replace hO416 := (hu465 _ (by have z0 := yd3; simp only [List.mem_cons, List.not_mem_nil, or_false, not_or]; omega)).trans hO416
            replace hA420 := (hu465 _ (by have z0 := yd3; simp only [List.mem_cons, List.not_mem_nil, or_false, not_or]; omega)).trans hA420
            replace hT3 := (hu465 _ (by have z0 := yd3; simp only [List.mem_cons, List.not_mem_nil, or_false, not_or]; omega)).trans hT3
            replace hT4 := (hu465 _ (by have z0 := yd3; simp only [List.mem_cons, List.not_mem_nil, or_false, not_or]; omega)).trans hT4
            replace hT5 := (hu465 _ (by have z0 := yd3; simp only [List.mem_cons, List.not_mem_nil, or_false, not_or]; omega)).trans hT5
            replace hT6 := (hu465 _ (by have z0 := yd3; simp only [List.mem_cons, List.not_mem_nil, or_false, not_or]; omega)).trans hT6
            replace hF := q_uc hF hu465 (by simp)
            have hR477 := (show F_NH_decimal_abt_c139_7 x2 x3 x4 x5 t0_0 t0_1 t1_0 t1_1 t2_0 t3_0 t3_1 t4_0 t5_0 t5_1 t6_0 t7_0 t7_1 t8_0 t9_0 t9_1 t10_0 t11_0 t11_1 t12_0 t12_1 t13_0 lx58 p433 y414 y415 y417 y418 f419 p466 = (F_NH_decimal_abt x2 x3 x4 x5 t0_0 t0_1 t1_0 t1_1 t2_0 t3_0 t3_1 t4_0 t5_0 t5_1 t6_0 t7_0 t7_1 t8_0 t9_0 t9_1 t10_0 t11_0 t11_1 t12_0 t12_1 t13_0) from Eq.trans (by rw [e467, e439, e438, e437, e436, e435, F_NH_decimal_abt_c100.eq_1]) hR440)
            have hS478 := (show True ∧ S_NH_decimal_abt_c139_7 x2 x3 x4 x5 t0_0 t0_1 t1_0 t1_1 t2_0 t3_0 t3_1 t4_0 t5_0 t5_1 t6_0 t7_0 t7_1 t8_0 t9_0 t9_1 t10_0 t11_0 t11_1 t12_0 t12_1 t13_0 lx58 p433 y414 y415 y417 y418 f419 p466 from (by rw [e467, e439, e438, e437, e436, e435]; have h := hS441; rw [S_NH_decimal_abt_c100.eq_1] at h; replace h := q_s2 h; with_reducible exact h))
            exact q_outT hno C0 V (⟨p466.1, (he463.trans (congrArg qE ((congrArg (fun z => z.1) (hE461.trans e467.symm)) : cx462 = _))), c468, hI, hF, y414, y415, y417, y418, f419, t3_0, t3_1, t4_0, t5_0, t5_1, t6_0, y449, y450, f451, y454, y455, y457, y458, f459, hO413, hO416, hA420, hT3, hT4, hT5, hT6, hO448, hA452, hO453, hO456, hA460, (show (p466.1, y414, y415, y417, y418, f419, t3_0, t3_1, t4_0, t5_0, t5_1, t6_0, y449, y450, f451, y454, y455, y457, y458, f459) = (F_NH_decimal_abt x2 x3 x4 x5 t0_0 t0_1 t1_0 t1_1 t2_0 t3_0 t3_1 t4_0 t5_0 t5_1 t6_0 t7_0 t7_1 t8_0 t9_0 t9_1 t10_0 t11_0 t11_1 t12_0 t12_1 t13_0) from Eq.trans (by rw [e476, e475, e474, e473, e472, e471, e470, e469, F_NH_decimal_abt_c139_7.eq_1, if_neg c468]) hR477)⟩) hce hcv hcl (Nat.le_of_ble_eq_true rfl) (Nat.le_of_ble_eq_true rfl)
          ·
            obtain ⟨hI, hZ9⟩ := hp447
            obtain ⟨hu520, hZ9⟩ := hZ9
            obtain ⟨y483, hZ9⟩ := hZ9
            obtain ⟨y484, hZ9⟩ := hZ9
            obtain ⟨f485, hZ9⟩ := hZ9
            obtain ⟨y488, hZ9⟩ := hZ9
            obtain ⟨y489, hZ9⟩ := hZ9
            obtain ⟨y491, hZ9⟩ := hZ9
            obtain ⟨y492, hZ9⟩ := hZ9
            obtain ⟨f493, hZ9⟩ := hZ9
            obtain ⟨hO482, hZ9⟩ := hZ9
            obtain ⟨hA486, hZ9⟩ := hZ9
            obtain ⟨hO487, hZ9⟩ := hZ9
            obtain ⟨hO490, hZ9⟩ := hZ9
            obtain ⟨hA494, hZ9⟩ := hZ9
            obtain ⟨b495, hZ9⟩ := hZ9
            obtain ⟨b496, hZ9⟩ := hZ9
            obtain ⟨b497, hZ9⟩ := hZ9
            obtain ⟨b498, hZ9⟩ := hZ9
            obtain ⟨b499, hZ9⟩ := hZ9
            obtain ⟨b500, hZ9⟩ := hZ9
            obtain ⟨b501, hZ9⟩ := hZ9
            obtain ⟨b502, hZ9⟩ := hZ9
            obtain ⟨b503, hZ9⟩ := hZ9
            obtain ⟨b504, hZ9⟩ := hZ9
            obtain ⟨b505, hZ9⟩ := hZ9
            obtain ⟨b506, hZ9⟩ := hZ9
            obtain ⟨b507, hZ9⟩ := hZ9
            obtain ⟨b508, hZ9⟩ := hZ9
            obtain ⟨b509, hZ9⟩ := hZ9
            obtain ⟨b510, hZ9⟩ := hZ9
            obtain ⟨b511, hZ9⟩ := hZ9
            obtain ⟨b512, hZ9⟩ := hZ9
            obtain ⟨b513, hZ9⟩ := hZ9
            obtain ⟨b514, hZ9⟩ := hZ9
            obtain ⟨b515, hZ9⟩ := hZ9
            obtain ⟨b516, hZ9⟩ := hZ9
            obtain ⟨b517, hZ9⟩ := hZ9
            obtain ⟨b518, hE519⟩ := hZ9
            replace hO482 : u446[20]? = (some (q 20, .inr (2, [.ref (q 21), .int y483, .int y484])) : Option (Nat × va_E)) := hO482
            replace hA486 : u446[21]? = (some (q 21, .inl (g 0, (220 : Int32).toNatClampNeg, .inl f485)) : Option (Nat × va_E)) := hA486
            replace hO487 : u446[d3]? = (some (q d3, .inr (3, [.ref (q (d3 + 1)), .int y488, .int y489])) : Option (Nat × va_E)) := hO487
            replace hO490 : u446[d3 + 1]? = (some (q (d3 + 1), .inr (2, [.ref (q (d3 + 2)), .int y491, .int y492])) : Option (Nat × va_E)) := hO490
            replace hA494 : u446[d3 + 2]? = (some (q (d3 + 2), .inl (g 0, (108 : Int32).toNatClampNeg, .inl f493)) : Option (Nat × va_E)) := hA494
            obtain ⟨p466, e467⟩ : ∃ z, z = (F_NH_keepDecimal x5 y414 y415 y417 y418 f419 t9_0 t9_1 t10_0 t11_0 t11_1 t12_0 t12_1 t13_0) := ⟨_, rfl⟩
            have c468 : p466.1 = (0 : Int32) := ((congrArg (fun z => z.1) (hE519.trans e467.symm)) : (0 : Int32) = _).symm
            have e522 : y483 = p466.2.1 := congrArg (fun z => z.2.1) (hE519.trans e467.symm)
            have e523 : y484 = p466.2.2.1 := congrArg (fun z => z.2.2.1) (hE519.trans e467.symm)
            have e524 : f485 = p466.2.2.2.1 := congrArg (fun z => z.2.2.2.1) (hE519.trans e467.symm)
            have e525 : y488 = p466.2.2.2.2.1 := congrArg (fun z => z.2.2.2.2.1) (hE519.trans e467.symm)
            have e526 : y489 = p466.2.2.2.2.2.1 := congrArg (fun z => z.2.2.2.2.2.1) (hE519.trans e467.symm)
            have e527 : y491 = p466.2.2.2.2.2.2.1 := congrArg (fun z => z.2.2.2.2.2.2.1) (hE519.trans e467.symm)
            have e528 : y492 = p466.2.2.2.2.2.2.2.1 := congrArg (fun z => z.2.2.2.2.2.2.2.1) (hE519.trans e467.symm)
            have e529 : f493 = p466.2.2.2.2.2.2.2.2 := congrArg (fun z => z.2.2.2.2.2.2.2.2) (hE519.trans e467.symm)
            replace b495 : q_F (0 ≤ y483.toInt) := b495
            replace b496 : q_F (y483.toInt ≤ 220) := b496
            replace b497 : q_F (0 ≤ y484.toInt) := b497
            replace b498 : q_F (y484.toInt ≤ 1) := b498
            replace b499 : q_F (0 ≤ y488.toInt + 10000) := b499
            replace b500 : q_F (y488.toInt ≤ 10000) := b500
            replace b501 : q_F (1 ≤ y489.toInt) := b501
            replace b502 : q_F (y489.toInt ≤ 1000) := b502
            replace b503 : q_F (0 ≤ y491.toInt) := b503
            replace b504 : q_F (y491.toInt ≤ 108) := b504
            replace b505 : q_F (0 ≤ y492.toInt) := b505
            replace b506 : q_F (y492.toInt ≤ 1) := b506
            replace b507 : q_F (x5.toInt ≤ y483.toInt + 9) := b507
            replace b508 : q_F (y483.toInt ≤ x5.toInt + 220) := b508
            replace b509 : q_F (x5.toInt ≤ y484.toInt + 9) := b509
            replace b510 : q_F (y484.toInt ≤ x5.toInt + 1) := b510
            replace b511 : q_F (x5.toInt ≤ y488.toInt + 10009) := b511
            replace b512 : q_F (y488.toInt ≤ x5.toInt + 10000) := b512
            replace b513 : q_F (x5.toInt ≤ y489.toInt + 8) := b513
            replace b514 : q_F (y489.toInt ≤ x5.toInt + 1000) := b514
            replace b515 : q_F (x5.toInt ≤ y491.toInt + 9) := b515
            replace b516 : q_F (y491.toInt ≤ x5.toInt + 108) := b516
            replace b517 : q_F (x5.toInt ≤ y492.toInt + 9) := b517
            replace b518 : q_F (y492.toInt ≤ x5.toInt + 1) := b518
            replace hO413 := (hu520 _ (by have z0 := yd3; simp only [List.mem_cons, List.not_mem_nil, or_false, not_or]; omega)).trans hO413
            replace hO416 := (hu520 _ (by have z0 := yd3; simp only [List.mem_cons, List.not_mem_nil, or_false, not_or]; omega)).trans hO416
            replace hA420 := (hu520 _ (by have z0 := yd3; simp only [List.mem_cons, List.not_mem_nil, or_false, not_or]; omega)).trans hA420
            replace hT3 := (hu520 _ (by have z0 := yd3; simp only [List.mem_cons, List.not_mem_nil, or_false, not_or]; omega)).trans hT3
            replace hT4 := (hu520 _ (by have z0 := yd3; simp only [List.mem_cons, List.not_mem_nil, or_false, not_or]; omega)).trans hT4
            replace hT5 := (hu520 _ (by have z0 := yd3; simp only [List.mem_cons, List.not_mem_nil, or_false, not_or]; omega)).trans hT5
            replace hT6 := (hu520 _ (by have z0 := yd3; simp only [List.mem_cons, List.not_mem_nil, or_false, not_or]; omega)).trans hT6
            replace hF := q_uc hF hu520 (by simp)
            have hR477 := (show F_NH_decimal_abt_c139_7 x2 x3 x4 x5 t0_0 t0_1 t1_0 t1_1 t2_0 t3_0 t3_1 t4_0 t5_0 t5_1 t6_0 t7_0 t7_1 t8_0 t9_0 t9_1 t10_0 t11_0 t11_1 t12_0 t12_1 t13_0 lx58 p433 y414 y415 y417 y418 f419 p466 = (F_NH_decimal_abt x2 x3 x4 x5 t0_0 t0_1 t1_0 t1_1 t2_0 t3_0 t3_1 t4_0 t5_0 t5_1 t6_0 t7_0 t7_1 t8_0 t9_0 t9_1 t10_0 t11_0 t11_1 t12_0 t12_1 t13_0) from Eq.trans (by rw [e467, e439, e438, e437, e436, e435, F_NH_decimal_abt_c100.eq_1]) hR440)
            have hS478 := (show True ∧ S_NH_decimal_abt_c139_7 x2 x3 x4 x5 t0_0 t0_1 t1_0 t1_1 t2_0 t3_0 t3_1 t4_0 t5_0 t5_1 t6_0 t7_0 t7_1 t8_0 t9_0 t9_1 t10_0 t11_0 t11_1 t12_0 t12_1 t13_0 lx58 p433 y414 y415 y417 y418 f419 p466 from (by rw [e467, e439, e438, e437, e436, e435]; have h := hS441; rw [S_NH_decimal_abt_c100.eq_1] at h; replace h := q_s2 h; with_reducible exact h))
            refine W.widen (k := 3) (n := 18) (Nat.le_of_ble_eq_true rfl) (Nat.le_of_ble_eq_true rfl) ?_
            exact q_retX (q_retv C0 V (⟨hI, hF, y414, y415, y417, y418, f419, t3_0, t3_1, t4_0, t5_0, t5_1, t6_0, y483, y484, f485, y488, y489, y491, y492, f493, hO413, hO416, hA420, hT3, hT4, hT5, hT6, hO482, hA486, hO487, hO490, hA494, (show 0 ≤ y414.toInt + 20000 from (by have t1 : -10000 ≤ t11_0.toInt ∧ t11_0.toInt ≤ 10000 := btt11_0; have t2 : t11_0.toInt ≤ y414.toInt + 10000 := b424; omega)), (show y414.toInt ≤ 20000 from (by have t1 : -10000 ≤ t11_0.toInt ∧ t11_0.toInt ≤ 10000 := btt11_0; have t2 : y414.toInt ≤ t11_0.toInt + 10000 := b425; omega)), (show 0 ≤ y415.toInt from (by have t1 : 0 ≤ t0_1.toInt ∧ t0_1.toInt ≤ 1 := btt0_1; have t2 : t0_1.toInt ≤ y415.toInt := b428; omega)), (show y415.toInt ≤ 1 from (by have t1 : 0 ≤ t0_1.toInt ∧ t0_1.toInt ≤ 1 := btt0_1; have t2 : y415.toInt ≤ t0_1.toInt := b429; omega)), (show 0 ≤ y417.toInt from (by have t1 : 0 ≤ y418.toInt := b422; have t2 : y418.toInt ≤ y417.toInt := b430; omega)), (show y417.toInt ≤ 220 from (by first | with_reducible exact q_fe b421 | (have t1 : y417.toInt ≤ 220 := b421; omega))), (show 0 ≤ y418.toInt from (by first | with_reducible exact q_fe b422 | (have t1 : 0 ≤ y418.toInt := b422; omega))), (show y418.toInt ≤ 1 from (by first | with_reducible exact q_fe b423 | (have t1 : y418.toInt ≤ 1 := b423; omega))), (show 0 ≤ t3_0.toInt from (by first | with_reducible exact (q_fe btt3_0).2 | with_reducible exact (q_fe btt3_0).1 | (have t1 : 0 ≤ t3_0.toInt ∧ t3_0.toInt ≤ 220 := btt3_0; omega))), (show t3_0.toInt ≤ 220 from (by first | with_reducible exact (q_fe btt3_0).2 | with_reducible exact (q_fe btt3_0).1 | (have t1 : 0 ≤ t3_0.toInt ∧ t3_0.toInt ≤ 220 := btt3_0; omega))), (show 0 ≤ t3_1.toInt from (by first | with_reducible exact (q_fe btt3_1).2 | with_reducible exact (q_fe btt3_1).1 | (have t1 : 0 ≤ t3_1.toInt ∧ t3_1.toInt ≤ 1 := btt3_1; omega))), (show t3_1.toInt ≤ 1 from (by first | with_reducible exact (q_fe btt3_1).2 | with_reducible exact (q_fe btt3_1).1 | (have t1 : 0 ≤ t3_1.toInt ∧ t3_1.toInt ≤ 1 := btt3_1; omega))), (show 0 ≤ t5_0.toInt from (by first | with_reducible exact (q_fe btt5_0).2 | with_reducible exact (q_fe btt5_0).1 | (have t1 : 0 ≤ t5_0.toInt ∧ t5_0.toInt ≤ 220 := btt5_0; omega))), (show t5_0.toInt ≤ 220 from (by first | with_reducible exact (q_fe btt5_0).2 | with_reducible exact (q_fe btt5_0).1 | (have t1 : 0 ≤ t5_0.toInt ∧ t5_0.toInt ≤ 220 := btt5_0; omega))), (show 0 ≤ t5_1.toInt from (by first | with_reducible exact (q_fe btt5_1).2 | with_reducible exact (q_fe btt5_1).1 | (have t1 : 0 ≤ t5_1.toInt ∧ t5_1.toInt ≤ 1 := btt5_1; omega))), (show t5_1.toInt ≤ 2 from (by first | with_reducible exact (q_fe btt5_1).2 | with_reducible exact (q_fe btt5_1).1 | (have t1 : 0 ≤ t5_1.toInt ∧ t5_1.toInt ≤ 1 := btt5_1; omega))), (show 0 ≤ y483.toInt from (by first | with_reducible exact q_fe b495 | (have t1 : 0 ≤ y483.toInt := b495; omega))), (show y483.toInt ≤ 220 from (by first | with_reducible exact q_fe b496 | (have t1 : y483.toInt ≤ 220 := b496; omega))), (show 0 ≤ y484.toInt from (by first | with_reducible exact q_fe b497 | (have t1 : 0 ≤ y484.toInt := b497; omega))), (show y484.toInt ≤ 1 from (by first | with_reducible exact q_fe b498 | (have t1 : y484.toInt ≤ 1 := b498; omega))), (show 0 ≤ y488.toInt + 10000 from (by first | with_reducible exact q_fe b499 | (have t1 : 0 ≤ y488.toInt + 10000 := b499; omega))), (show y488.toInt ≤ 10000 from (by first | with_reducible exact q_fe b500 | (have t1 : y488.toInt ≤ 10000 := b500; omega))), (show 1 ≤ y489.toInt from (by first | with_reducible exact q_fe b501 | (have t1 : 1 ≤ y489.toInt := b501; omega))), (show y489.toInt ≤ 1000 from (by first | with_reducible exact q_fe b502 | (have t1 : y489.toInt ≤ 1000 := b502; omega))), (show 0 ≤ y491.toInt from (by first | with_reducible exact q_fe b503 | (have t1 : 0 ≤ y491.toInt := b503; omega))), (show y491.toInt ≤ 108 from (by first | with_reducible exact q_fe b504 | (have t1 : y491.toInt ≤ 108 := b504; omega))), (show 0 ≤ y492.toInt from (by first | with_reducible exact q_fe b505 | (have t1 : 0 ≤ y492.toInt := b505; omega))), (show y492.toInt ≤ 1 from (by first | with_reducible exact q_fe b506 | (have t1 : y492.toInt ≤ 1 := b506; omega))), (show x3.toInt ≤ y414.toInt + 20009 from (by have t1 : -10000 ≤ t11_0.toInt ∧ t11_0.toInt ≤ 10000 := btt11_0; have t2 : x3.toInt ≤ 9 := ob93; have t3 : t11_0.toInt ≤ y414.toInt + 10000 := b424; omega)), (show y414.toInt ≤ x3.toInt + 20000 from (by have t1 : -10000 ≤ t11_0.toInt ∧ t11_0.toInt ≤ 10000 := btt11_0; have t2 : 0 ≤ x3.toInt := ob92; have t3 : y414.toInt ≤ t11_0.toInt + 10000 := b425; omega)), (show x4.toInt ≤ y414.toInt + 20009 from (by have t1 : -10000 ≤ t11_0.toInt ∧ t11_0.toInt ≤ 10000 := btt11_0; have t2 : x4.toInt ≤ 9 := ob98; have t3 : t11_0.toInt ≤ y414.toInt + 10000 := b424; omega)), (show y414.toInt ≤ x4.toInt + 20000 from (by have t1 : -10000 ≤ t11_0.toInt ∧ t11_0.toInt ≤ 10000 := btt11_0; have t2 : 0 ≤ x4.toInt := ob97; have t3 : y414.toInt ≤ t11_0.toInt + 10000 := b425; omega)), (show t11_0.toInt ≤ y414.toInt + 10000 from (by first | with_reducible exact q_fe b424 | (have t1 : t11_0.toInt ≤ y414.toInt + 10000 := b424; omega))), (show y414.toInt ≤ t11_0.toInt + 20000 from (by first | with_reducible exact q_fe b425 | (have t1 : y414.toInt ≤ t11_0.toInt + 10000 := b425; omega))), (show x3.toInt ≤ y415.toInt + 9 from (by have t1 : 0 ≤ t0_1.toInt ∧ t0_1.toInt ≤ 1 := btt0_1; have t2 : x3.toInt ≤ 9 := ob93; have t3 : t0_1.toInt ≤ y415.toInt := b428; omega)), (show y415.toInt ≤ x3.toInt + 1 from (by have t1 : 0 ≤ t0_1.toInt ∧ t0_1.toInt ≤ 1 := btt0_1; have t2 : 0 ≤ x3.toInt := ob92; have t3 : y415.toInt ≤ t0_1.toInt := b429; omega)), (show x4.toInt ≤ y415.toInt + 9 from (by have t1 : 0 ≤ t0_1.toInt ∧ t0_1.toInt ≤ 1 := btt0_1; have t2 : x4.toInt ≤ 9 := ob98; have t3 : t0_1.toInt ≤ y415.toInt := b428; omega)), (show y415.toInt ≤ x4.toInt + 1 from (by have t1 : 0 ≤ t0_1.toInt ∧ t0_1.toInt ≤ 1 := btt0_1; have t2 : 0 ≤ x4.toInt := ob97; have t3 : y415.toInt ≤ t0_1.toInt := b429; omega)), (show t0_1.toInt ≤ y415.toInt from (by first | with_reducible exact q_fe b428 | (have t1 : t0_1.toInt ≤ y415.toInt := b428; omega))), (show y415.toInt ≤ t0_1.toInt from (by first | with_reducible exact q_fe b429 | (have t1 : y415.toInt ≤ t0_1.toInt := b429; omega))), (show x3.toInt ≤ y417.toInt + 9 from (by have t1 : x3.toInt ≤ 9 := ob93; have t2 : 0 ≤ y418.toInt := b422; have t3 : y418.toInt ≤ y417.toInt := b430; omega)), (show y417.toInt ≤ x3.toInt + 220 from (by have t1 : 0 ≤ x3.toInt := ob92; have t2 : y417.toInt ≤ 220 := b421; omega)), (show x4.toInt ≤ y417.toInt + 9 from (by have t1 : x4.toInt ≤ 9 := ob98; have t2 : 0 ≤ y418.toInt := b422; have t3 : y418.toInt ≤ y417.toInt := b430; omega)), (show y417.toInt ≤ x4.toInt + 220 from (by have t1 : 0 ≤ x4.toInt := ob97; have t2 : y417.toInt ≤ 220 := b421; omega)), (show x3.toInt ≤ y418.toInt + 9 from (by have t1 : x3.toInt ≤ 9 := ob93; have t2 : 0 ≤ y418.toInt := b422; omega)), (show y418.toInt ≤ x3.toInt + 1 from (by have t1 : 0 ≤ x3.toInt := ob92; have t2 : y418.toInt ≤ 1 := b423; omega)), (show x4.toInt ≤ y418.toInt + 9 from (by have t1 : x4.toInt ≤ 9 := ob98; have t2 : 0 ≤ y418.toInt := b422; omega)), (show y418.toInt ≤ x4.toInt + 1 from (by have t1 : 0 ≤ x4.toInt := ob97; have t2 : y418.toInt ≤ 1 := b423; omega)), (show x3.toInt ≤ t3_0.toInt + 9 from (by have t1 : 0 ≤ t3_0.toInt ∧ t3_0.toInt ≤ 220 := btt3_0; have t2 : x3.toInt ≤ 9 := ob93; omega)), (show t3_0.toInt ≤ x3.toInt + 220 from (by have t1 : 0 ≤ t3_0.toInt ∧ t3_0.toInt ≤ 220 := btt3_0; have t2 : 0 ≤ x3.toInt := ob92; omega)), (show x4.toInt ≤ t3_0.toInt + 9 from (by have t1 : 0 ≤ t3_0.toInt ∧ t3_0.toInt ≤ 220 := btt3_0; have t2 : x4.toInt ≤ 9 := ob98; omega)), (show t3_0.toInt ≤ x4.toInt + 220 from (by have t1 : 0 ≤ t3_0.toInt ∧ t3_0.toInt ≤ 220 := btt3_0; have t2 : 0 ≤ x4.toInt := ob97; omega)), (show x3.toInt ≤ t3_1.toInt + 9 from (by have t1 : 0 ≤ t3_1.toInt ∧ t3_1.toInt ≤ 1 := btt3_1; have t2 : x3.toInt ≤ 9 := ob93; omega)), (show t3_1.toInt ≤ x3.toInt + 1 from (by have t1 : 0 ≤ t3_1.toInt ∧ t3_1.toInt ≤ 1 := btt3_1; have t2 : 0 ≤ x3.toInt := ob92; omega)), (show x4.toInt ≤ t3_1.toInt + 9 from (by have t1 : 0 ≤ t3_1.toInt ∧ t3_1.toInt ≤ 1 := btt3_1; have t2 : x4.toInt ≤ 9 := ob98; omega)), (show t3_1.toInt ≤ x4.toInt + 1 from (by have t1 : 0 ≤ t3_1.toInt ∧ t3_1.toInt ≤ 1 := btt3_1; have t2 : 0 ≤ x4.toInt := ob97; omega)), (show t3_1.toInt ≤ t3_1.toInt from (by omega)), (show x3.toInt ≤ t5_0.toInt + 9 from (by have t1 : 0 ≤ t5_0.toInt ∧ t5_0.toInt ≤ 220 := btt5_0; have t2 : x3.toInt ≤ 9 := ob93; omega)), (show t5_0.toInt ≤ x3.toInt + 220 from (by have t1 : 0 ≤ t5_0.toInt ∧ t5_0.toInt ≤ 220 := btt5_0; have t2 : 0 ≤ x3.toInt := ob92; omega)), (show x4.toInt ≤ t5_0.toInt + 9 from (by have t1 : 0 ≤ t5_0.toInt ∧ t5_0.toInt ≤ 220 := btt5_0; have t2 : x4.toInt ≤ 9 := ob98; omega)), (show t5_0.toInt ≤ x4.toInt + 220 from (by have t1 : 0 ≤ t5_0.toInt ∧ t5_0.toInt ≤ 220 := btt5_0; have t2 : 0 ≤ x4.toInt := ob97; omega)), (show x3.toInt ≤ t5_1.toInt + 9 from (by have t1 : 0 ≤ t5_1.toInt ∧ t5_1.toInt ≤ 1 := btt5_1; have t2 : x3.toInt ≤ 9 := ob93; omega)), (show x4.toInt ≤ t5_1.toInt + 9 from (by have t1 : 0 ≤ t5_1.toInt ∧ t5_1.toInt ≤ 1 := btt5_1; have t2 : x4.toInt ≤ 9 := ob98; omega)), (show t5_1.toInt ≤ t12_1.toInt + 1 from (by have t1 : 0 ≤ t5_1.toInt ∧ t5_1.toInt ≤ 1 := btt5_1; have t2 : 0 ≤ t12_1.toInt ∧ t12_1.toInt ≤ 1 := btt12_1; omega)), (show x3.toInt ≤ y483.toInt + 9 from (by have t1 : x3.toInt ≤ 9 := ob93; have t2 : 0 ≤ y483.toInt := b495; omega)), (show y483.toInt ≤ x3.toInt + 220 from (by have t1 : 0 ≤ x3.toInt := ob92; have t2 : y483.toInt ≤ 220 := b496; omega)), (show x4.toInt ≤ y483.toInt + 9 from (by have t1 : x4.toInt ≤ 9 := ob98; have t2 : 0 ≤ y483.toInt := b495; omega)), (show y483.toInt ≤ x4.toInt + 220 from (by have t1 : 0 ≤ x4.toInt := ob97; have t2 : y483.toInt ≤ 220 := b496; omega)), (show x5.toInt ≤ y483.toInt + 9 from (by first | with_reducible exact q_fe b507 | (have t1 : x5.toInt ≤ y483.toInt + 9 := b507; omega))), (show y483.toInt ≤ x5.toInt + 220 from (by first | with_reducible exact q_fe b508 | (have t1 : y483.toInt ≤ x5.toInt + 220 := b508; omega))), (show x3.toInt ≤ y484.toInt + 9 from (by have t1 : x3.toInt ≤ 9 := ob93; have t2 : 0 ≤ y484.toInt := b497; omega)), (show y484.toInt ≤ x3.toInt + 1 from (by have t1 : 0 ≤ x3.toInt := ob92; have t2 : y484.toInt ≤ 1 := b498; omega)), (show x4.toInt ≤ y484.toInt + 9 from (by have t1 : x4.toInt ≤ 9 := ob98; have t2 : 0 ≤ y484.toInt := b497; omega)), (show y484.toInt ≤ x4.toInt + 1 from (by have t1 : 0 ≤ x4.toInt := ob97; have t2 : y484.toInt ≤ 1 := b498; omega)), (show x5.toInt ≤ y484.toInt + 9 from (by first | with_reducible exact q_fe b509 | (have t1 : x5.toInt ≤ y484.toInt + 9 := b509; omega))), (show y484.toInt ≤ x5.toInt + 1 from (by first | with_reducible exact q_fe b510 | (have t1 : y484.toInt ≤ x5.toInt + 1 := b510; omega))), (show x3.toInt ≤ y488.toInt + 10009 from (by have t1 : x3.toInt ≤ 9 := ob93; have t2 : 0 ≤ y488.toInt + 10000 := b499; omega)), (show y488.toInt ≤ x3.toInt + 10000 from (by have t1 : 0 ≤ x3.toInt := ob92; have t2 : y488.toInt ≤ 10000 := b500; omega)), (show x4.toInt ≤ y488.toInt + 10009 from (by have t1 : x4.toInt ≤ 9 := ob98; have t2 : 0 ≤ y488.toInt + 10000 := b499; omega)), (show y488.toInt ≤ x4.toInt + 10000 from (by have t1 : 0 ≤ x4.toInt := ob97; have t2 : y488.toInt ≤ 10000 := b500; omega)), (show x5.toInt ≤ y488.toInt + 10009 from (by first | with_reducible exact q_fe b511 | (have t1 : x5.toInt ≤ y488.toInt + 10009 := b511; omega))), (show y488.toInt ≤ x5.toInt + 10000 from (by first | with_reducible exact q_fe b512 | (have t1 : y488.toInt ≤ x5.toInt + 10000 := b512; omega))), (show x3.toInt ≤ y489.toInt + 8 from (by have t1 : x3.toInt ≤ 9 := ob93; have t2 : 1 ≤ y489.toInt := b501; omega)), (show y489.toInt ≤ x3.toInt + 1000 from (by have t1 : 0 ≤ x3.toInt := ob92; have t2 : y489.toInt ≤ 1000 := b502; omega)), (show x4.toInt ≤ y489.toInt + 8 from (by have t1 : x4.toInt ≤ 9 := ob98; have t2 : 1 ≤ y489.toInt := b501; omega)), (show y489.toInt ≤ x4.toInt + 1000 from (by have t1 : 0 ≤ x4.toInt := ob97; have t2 : y489.toInt ≤ 1000 := b502; omega)), (show x5.toInt ≤ y489.toInt + 8 from (by first | with_reducible exact q_fe b513 | (have t1 : x5.toInt ≤ y489.toInt + 8 := b513; omega))), (show y489.toInt ≤ x5.toInt + 1000 from (by first | with_reducible exact q_fe b514 | (have t1 : y489.toInt ≤ x5.toInt + 1000 := b514; omega))), (show x3.toInt ≤ y491.toInt + 9 from (by have t1 : x3.toInt ≤ 9 := ob93; have t2 : 0 ≤ y491.toInt := b503; omega)), (show y491.toInt ≤ x3.toInt + 108 from (by have t1 : 0 ≤ x3.toInt := ob92; have t2 : y491.toInt ≤ 108 := b504; omega)), (show x4.toInt ≤ y491.toInt + 9 from (by have t1 : x4.toInt ≤ 9 := ob98; have t2 : 0 ≤ y491.toInt := b503; omega)), (show y491.toInt ≤ x4.toInt + 108 from (by have t1 : 0 ≤ x4.toInt := ob97; have t2 : y491.toInt ≤ 108 := b504; omega)), (show x5.toInt ≤ y491.toInt + 9 from (by first | with_reducible exact q_fe b515 | (have t1 : x5.toInt ≤ y491.toInt + 9 := b515; omega))), (show y491.toInt ≤ x5.toInt + 108 from (by first | with_reducible exact q_fe b516 | (have t1 : y491.toInt ≤ x5.toInt + 108 := b516; omega))), (show x3.toInt ≤ y492.toInt + 9 from (by have t1 : x3.toInt ≤ 9 := ob93; have t2 : 0 ≤ y492.toInt := b505; omega)), (show y492.toInt ≤ x3.toInt + 1 from (by have t1 : 0 ≤ x3.toInt := ob92; have t2 : y492.toInt ≤ 1 := b506; omega)), (show x4.toInt ≤ y492.toInt + 9 from (by have t1 : x4.toInt ≤ 9 := ob98; have t2 : 0 ≤ y492.toInt := b505; omega)), (show y492.toInt ≤ x4.toInt + 1 from (by have t1 : 0 ≤ x4.toInt := ob97; have t2 : y492.toInt ≤ 1 := b506; omega)), (show x5.toInt ≤ y492.toInt + 9 from (by first | with_reducible exact q_fe b517 | (have t1 : x5.toInt ≤ y492.toInt + 9 := b517; omega))), (show y492.toInt ≤ x5.toInt + 1 from (by first | with_reducible exact q_fe b518 | (have t1 : y492.toInt ≤ x5.toInt + 1 := b518; omega))), (show t5_1.toInt ≤ y414.toInt + 20001 from (by have t1 : 0 ≤ t5_1.toInt ∧ t5_1.toInt ≤ 1 := btt5_1; have t2 : -10000 ≤ t11_0.toInt ∧ t11_0.toInt ≤ 10000 := btt11_0; have t3 : t11_0.toInt ≤ y414.toInt + 10000 := b424; omega)), (show t5_1.toInt ≤ y418.toInt + 1 from (by have t1 : 0 ≤ t5_1.toInt ∧ t5_1.toInt ≤ 1 := btt5_1; have t2 : 0 ≤ y418.toInt := b422; omega)), (show ((0 : Int32), y414, y415, y417, y418, f419, t3_0, t3_1, t4_0, t5_0, t5_1, t6_0, y483, y484, f485, y488, y489, y491, y492, f493) = (F_NH_decimal_abt x2 x3 x4 x5 t0_0 t0_1 t1_0 t1_1 t2_0 t3_0 t3_1 t4_0 t5_0 t5_1 t6_0 t7_0 t7_1 t8_0 t9_0 t9_1 t10_0 t11_0 t11_1 t12_0 t12_1 t13_0) from Eq.trans (by rw [e529, e528, e527, e526, e525, e524, e523, e522, F_NH_decimal_abt_c139_7.eq_1, if_pos c468]) hR477)⟩) d_1_11_142)
      ·
        refine lv_aload_n hx hb d_1_11_60 rfl (lv_at hl 2 rfl) ?_
        refine q_get (ci := 0) (j := 7) (v := .ref (q 30)) C0 V i_NH rfl rfl hO90 (by decide) w_431 rfl d_1_11_61 ?_
        refine lv_aload hx hb d_1_11_64 (lv_at hl 1 rfl) ?_
        refine lv_aload hx hb d_1_11_66 (lv_at hl 0 rfl) ?_
        refine lv_iload_n hx hb d_1_11_68 rfl (lv_at hl 3 rfl) ?_
        refine lv_iconst (v := 1) hx hb d_1_11_69 (by decide) ?_
        refine lv_icmp_ne (tgt := 77) hx hb d_1_11_70 (by decide) (fun c531 => ?_) (fun c531 => ?_)
        ·
          refine lv_iconst (v := 0) hx hb d_1_11_77 (by decide) ?_
          refine q_goi V (q_runV (As := [.ref (q d3), .ref (q d3), .int 0]) (rest := []) (d := 4) (mc := 0) (ms := 0) (ci := 5) C0 V rfl LV_NH_269 (X_DW_sum l D g q ws d3 108 hBd3 (Or.inr yd3) d3 108 hBd3 (Or.inr yd3) 0 (by have z0 := yd3; omega) (by have z0 := yd3; omega) (by have z0 := yd3; omega) (by have z0 := yd3; omega) (by have z0 := yd3; omega) (by have z0 := yd3; omega) (by have z0 := yd3; omega) (by have z0 := yd3; omega) (by have z0 := yd3; omega) (by have z0 := yd3; omega) (by have z0 := yd3; omega) (by have z0 := yd3; omega) (by have z0 := yd3; omega) (by have z0 := yd3; omega) (by have z0 := yd3; omega) (by have z0 := yd3; omega) (by have z0 := yd3; omega) (by have z0 := yd3; omega) (by have z0 := yd3; omega) (by have z0 := yd3; omega) (by have z0 := yd3; omega) (by have z0 := yd3; omega) (by have z0 := yd3; omega) (by have z0 := yd3; omega) hI t0_0 t0_1 hT0 t1_0 t1_1 hT1 t2_0 hT2 t5_0 t5_1 hT5 t6_0 hT6 t11_0 t11_1 hT11 t12_0 t12_1 hT12 t13_0 hT13 t11_0 t11_1 hT11 t12_0 t12_1 hT12 t13_0 hT13 ⟨(by have y0 : (108 : Int32).toInt = 108 := rfl; have y1 : (108 : Int32).toInt = 108 := rfl; have y2 : (0 : Int32).toInt = 0 := rfl; omega), (by have y0 : (108 : Int32).toInt = 108 := rfl; have y1 : (108 : Int32).toInt = 108 := rfl; have y2 : (0 : Int32).toInt = 0 := rfl; omega)⟩ _) rfl rfl hT0 rfl hl.1 rfl (Nat.le_of_ble_eq_true rfl) ⟨by decide, by decide⟩ ⟨Nat.le_of_ble_eq_true rfl, Nat.le_of_ble_eq_true rfl⟩ d_1_11_78) (fun a535 u533 H locs hp534 V => ?_)
          obtain ⟨hI, hZ9⟩ := hp534
          obtain ⟨hu565, hZ9⟩ := hZ9
          obtain ⟨y537, hZ9⟩ := hZ9
          obtain ⟨y538, hZ9⟩ := hZ9
          obtain ⟨y540, hZ9⟩ := hZ9
          obtain ⟨y541, hZ9⟩ := hZ9
          obtain ⟨f542, hZ9⟩ := hZ9
          obtain ⟨y545, hZ9⟩ := hZ9
          obtain ⟨y546, hZ9⟩ := hZ9
          obtain ⟨f547, hZ9⟩ := hZ9
          obtain ⟨hO536, hZ9⟩ := hZ9
          obtain ⟨hO539, hZ9⟩ := hZ9
          obtain ⟨hA543, hZ9⟩ := hZ9
          obtain ⟨hO544, hZ9⟩ := hZ9
          obtain ⟨hA548, hZ9⟩ := hZ9
          obtain ⟨b549, hZ9⟩ := hZ9
          obtain ⟨b550, hZ9⟩ := hZ9
          obtain ⟨b551, hZ9⟩ := hZ9
          obtain ⟨b552, hZ9⟩ := hZ9
          obtain ⟨b553, hZ9⟩ := hZ9
          obtain ⟨b554, hZ9⟩ := hZ9
          obtain ⟨b555, hZ9⟩ := hZ9
          obtain ⟨b556, hZ9⟩ := hZ9
          obtain ⟨b557, hZ9⟩ := hZ9
          obtain ⟨b558, hZ9⟩ := hZ9
          obtain ⟨b559, hZ9⟩ := hZ9
          obtain ⟨b560, hZ9⟩ := hZ9
          replace hZ9 := hZ9.2
          obtain ⟨b562, hZ9⟩ := hZ9
          obtain ⟨b563, hE564⟩ := hZ9
          replace hO536 : u533[30]? = (some (q 30, .inr (5, [.ref (q 31), .long y537, .ref (q 9), .int y538])) : Option (Nat × va_E)) := hO536
          replace hO539 : u533[10]? = (some (q 10, .inr (2, [.ref (q 11), .int y540, .int y541])) : Option (Nat × va_E)) := hO539
          replace hA543 : u533[11]? = (some (q 11, .inl (g 0, (220 : Int32).toNatClampNeg, .inl f542)) : Option (Nat × va_E)) := hA543
          replace hO544 : u533[22]? = (some (q 22, .inr (2, [.ref (q 23), .int y545, .int y546])) : Option (Nat × va_E)) := hO544
          replace hA548 : u533[23]? = (some (q 23, .inl (g 0, (220 : Int32).toNatClampNeg, .inl f547)) : Option (Nat × va_E)) := hA548
          obtain ⟨p566, e567⟩ : ∃ z, z = (F_DW_sum (108 : Int32) (108 : Int32) (0 : Int32) t0_0 t0_1 t1_0 t1_1 t2_0 t5_0 t5_1 t6_0 t11_0 t11_1 t12_0 t12_1 t13_0 t11_0 t11_1 t12_0 t12_1 t13_0) := ⟨_, rfl⟩
          have e568 : a535 = p566.1 := congrArg (fun z => z.1) (hE564.trans e567.symm)
          have e569 : y537 = p566.2.1 := congrArg (fun z => z.2.1) (hE564.trans e567.symm)
          have e570 : y538 = p566.2.2.1 := congrArg (fun z => z.2.2.1) (hE564.trans e567.symm)
          have e571 : y540 = p566.2.2.2.1 := congrArg (fun z => z.2.2.2.1) (hE564.trans e567.symm)
          have e572 : y541 = p566.2.2.2.2.1 := congrArg (fun z => z.2.2.2.2.1) (hE564.trans e567.symm)
          have e573 : f542 = p566.2.2.2.2.2.1 := congrArg (fun z => z.2.2.2.2.2.1) (hE564.trans e567.symm)
          have e574 : y545 = p566.2.2.2.2.2.2.1 := congrArg (fun z => z.2.2.2.2.2.2.1) (hE564.trans e567.symm)
          have e575 : y546 = p566.2.2.2.2.2.2.2.1 := congrArg (fun z => z.2.2.2.2.2.2.2.1) (hE564.trans e567.symm)
          have e576 : f547 = p566.2.2.2.2.2.2.2.2 := congrArg (fun z => z.2.2.2.2.2.2.2.2) (hE564.trans e567.symm)
          replace b549 : q_F (0 ≤ a535.toInt) := b549
          replace b550 : q_F (a535.toInt ≤ 1) := b550
          replace b551 : q_F (y537.toInt ≤ 10000) := b551
          replace b552 : q_F (0 ≤ y540.toInt) := b552
          replace b553 : q_F (y540.toInt ≤ 220) := b553
          replace b554 : q_F (0 ≤ y541.toInt) := b554
          replace b555 : q_F (y541.toInt ≤ 1) := b555
          replace b556 : q_F (0 ≤ y545.toInt) := b556
          replace b557 : q_F (y545.toInt ≤ 220) := b557
          replace b558 : q_F (0 ≤ y546.toInt) := b558
          replace b559 : q_F (y546.toInt ≤ 1) := b559
          replace b560 : q_F (t11_0.toInt ≤ y537.toInt) := b560
          replace b562 : q_F (t0_1.toInt ≤ y538.toInt) := b562
          replace b563 : q_F (y538.toInt ≤ t0_1.toInt) := b563
          replace hT3 := (hu565 _ (by decide)).trans hT3
          replace hT4 := (hu565 _ (by decide)).trans hT4
          replace hT9 := (hu565 _ (by decide)).trans hT9
          replace hT10 := (hu565 _ (by decide)).trans hT10
          replace hT11 := (hu565 _ (by have z0 := yd3; simp only [List.mem_cons, List.not_mem_nil, or_false, not_or]; omega)).trans hT11
          replace hT12 := (hu565 _ (by have z0 := yd3; simp only [List.mem_cons, List.not_mem_nil, or_false, not_or]; omega)).trans hT12
          replace hT13 := (hu565 _ (by have z0 := yd3; simp only [List.mem_cons, List.not_mem_nil, or_false, not_or]; omega)).trans hT13
          replace hO90 := (hu565 _ (by decide)).trans hO90
          replace hF := q_uc hF hu565 (by simp)
          have hR577 := (show F_NH_decimal_abt_c78 x2 x3 x4 x5 t0_0 t0_1 t1_0 t1_1 t2_0 t3_0 t3_1 t4_0 t5_0 t5_1 t6_0 t7_0 t7_1 t8_0 t9_0 t9_1 t10_0 t11_0 t11_1 t12_0 t12_1 t13_0 lx58 p566 = (F_NH_decimal_abt x2 x3 x4 x5 t0_0 t0_1 t1_0 t1_1 t2_0 t3_0 t3_1 t4_0 t5_0 t5_1 t6_0 t7_0 t7_1 t8_0 t9_0 t9_1 t10_0 t11_0 t11_1 t12_0 t12_1 t13_0) from Eq.trans (by rw [e567, F_NH_decimal_abt_J36.eq_1, if_pos c87, if_neg c101, if_neg c531]) hR76)
          have hS578 := (show True ∧ S_NH_decimal_abt_c78 x2 x3 x4 x5 t0_0 t0_1 t1_0 t1_1 t2_0 t3_0 t3_1 t4_0 t5_0 t5_1 t6_0 t7_0 t7_1 t8_0 t9_0 t9_1 t10_0 t11_0 t11_1 t12_0 t12_1 t13_0 lx58 p566 from (by rw [e567]; have h := hS77; rw [S_NH_decimal_abt_J36.eq_1] at h; rw [if_pos c87] at h; replace h := q_s2 h; replace h := q_s2 h; replace h := q_s2 h; replace h := q_s2 h; rw [if_neg c101] at h; rw [if_neg c531] at h; with_reducible exact h))
          refine q_goxv V (q_runSX (As := [.int a535]) (rest := []) (d := 7) (mc := 1) (ms := 6) C0 V rfl LS_NH_138 (X_NH_canHave l D g q u533  a535 hlt hI  ⟨(by first | with_reducible exact q_fe b549 | (have t1 : 0 ≤ a535.toInt := b549; omega)), (by first | with_reducible exact q_fe b550 | (have t1 : a535.toInt ≤ 1 := b550; omega))⟩ _) rfl hl.1 rfl (Nat.le_of_ble_eq_true rfl) ⟨by decide, by decide⟩ ⟨Nat.le_of_ble_eq_true rfl, Nat.le_of_ble_eq_true rfl⟩ d_1_11_81) (fun qx Ex ce u582 H locs hp583 V hce hcv hcl => ?_) (fun u582 H locs hp583 V => ?_)
          ·
            obtain ⟨cx585, he586, hc587, rfl, hE584⟩ := hp583
            have c588 : ¬ (F_NH_canHave a535) = (0 : Int32) := fun z => hc587 (((hE584) : cx585 = _).trans z)
            exact q_outT hno C0 V (⟨(F_NH_canHave a535), (he586.trans (congrArg qE ((hE584) : cx585 = _))), c588, hI, hF, y537, y538, y540, y541, f542, t3_0, t3_1, t4_0, y545, y546, f547, t9_0, t9_1, t10_0, t11_0, t11_1, t12_0, t12_1, t13_0, hO536, hO539, hA543, hT3, hT4, hO544, hA548, hT9, hT10, hT11, hT12, hT13, (show ((F_NH_canHave a535), y537, y538, y540, y541, f542, t3_0, t3_1, t4_0, y545, y546, f547, t9_0, t9_1, t10_0, t11_0, t11_1, t12_0, t12_1, t13_0) = (F_NH_decimal_abt x2 x3 x4 x5 t0_0 t0_1 t1_0 t1_1 t2_0 t3_0 t3_1 t4_0 t5_0 t5_1 t6_0 t7_0 t7_1 t8_0 t9_0 t9_1 t10_0 t11_0 t11_1 t12_0 t12_1 t13_0) from Eq.trans (by have c588x := c588; rw [e568] at c588x; rw [e576, e575, e574, e573, e572, e571, e570, e569, e568, F_NH_decimal_abt_c78.eq_1, if_neg c588x]) hR577)⟩) hce hcv hcl (Nat.le_of_ble_eq_true rfl) (Nat.le_of_ble_eq_true rfl)
          ·
            obtain ⟨rfl, hE589⟩ := hp583
            have c588 : (F_NH_canHave a535) = (0 : Int32) := ((hE589) : (0 : Int32) = _).symm
            refine lv_goto (tgt := 136) hx hb d_1_11_84 (by decide) ?_
            refine lv_aload_n hx hb d_1_11_136 rfl (lv_at hl 2 rfl) ?_
            refine lv_iload hx hb d_1_11_137 (lv_at hl 6 rfl) ?_
            have ob591 : True ∧ S_NH_keepDecimal x5 y537 y538 y540 y541 f542 t9_0 t9_1 t10_0 t11_0 t11_1 t12_0 t12_1 t13_0 := (by rw [e573, e572, e571, e570, e569]; have h := hS578; rw [S_NH_decimal_abt_c78.eq_1] at h; have c588x := c588; rw [e568] at c588x; rw [if_pos c588x] at h; with_reducible exact h.2.1)
            refine q_goxv V (q_runVX (As := [.int x5]) (rest := []) (d := 8) (mc := 1) (ms := 6) (ci := 0) C0 V rfl LV_NH_281 (X_NH_keepDecimal l D g q u533  x5 d3 hBd3 yd3 gd3x5 hlt hI y537 y538 hO536 y540 y541 hO539 f542 hA543 t9_0 t9_1 hT9 t10_0 hT10 t11_0 t11_1 hT11 t12_0 t12_1 hT12 t13_0 hT13 ob591 _) rfl rfl hO90 rfl hl.1 rfl (Nat.le_of_ble_eq_true rfl) ⟨by decide, by decide⟩ ⟨Nat.le_of_ble_eq_true rfl, Nat.le_of_ble_eq_true rfl⟩ d_1_11_139) (fun qx Ex ce u592 H locs hp593 V hce hcv hcl => ?_) (fun u592 H locs hp593 V => ?_)
            ·
              obtain ⟨cx608, hZ9⟩ := hp593
              obtain ⟨he609, hZ9⟩ := hZ9
              obtain ⟨hc610, hZ9⟩ := hZ9
              obtain ⟨hI, hZ9⟩ := hZ9
              obtain ⟨hu611, hZ9⟩ := hZ9
              obtain ⟨y595, hZ9⟩ := hZ9
              obtain ⟨y596, hZ9⟩ := hZ9
              obtain ⟨f597, hZ9⟩ := hZ9
              obtain ⟨y600, hZ9⟩ := hZ9
              obtain ⟨y601, hZ9⟩ := hZ9
              obtain ⟨y603, hZ9⟩ := hZ9
              obtain ⟨y604, hZ9⟩ := hZ9
              obtain ⟨f605, hZ9⟩ := hZ9
              obtain ⟨hO594, hZ9⟩ := hZ9
              obtain ⟨hA598, hZ9⟩ := hZ9
              obtain ⟨hO599, hZ9⟩ := hZ9
              obtain ⟨hO602, hZ9⟩ := hZ9
              obtain ⟨hA606, hE607⟩ := hZ9
              replace hO594 : u592[20]? = (some (q 20, .inr (2, [.ref (q 21), .int y595, .int y596])) : Option (Nat × va_E)) := hO594
              replace hA598 : u592[21]? = (some (q 21, .inl (g 0, (220 : Int32).toNatClampNeg, .inl f597)) : Option (Nat × va_E)) := hA598
              replace hO599 : u592[d3]? = (some (q d3, .inr (3, [.ref (q (d3 + 1)), .int y600, .int y601])) : Option (Nat × va_E)) := hO599
              replace hO602 : u592[d3 + 1]? = (some (q (d3 + 1), .inr (2, [.ref (q (d3 + 2)), .int y603, .int y604])) : Option (Nat × va_E)) := hO602
              replace hA606 : u592[d3 + 2]? = (some (q (d3 + 2), .inl (g 0, (108 : Int32).toNatClampNeg, .inl f605)) : Option (Nat × va_E)) := hA606
              obtain ⟨p612, e613⟩ : ∃ z, z = (F_NH_keepDecimal x5 y537 y538 y540 y541 f542 t9_0 t9_1 t10_0 t11_0 t11_1 t12_0 t12_1 t13_0) := ⟨_, rfl⟩
              have c614 : ¬ p612.1 = (0 : Int32) := fun z => hc610 (((congrArg (fun z => z.1) (hE607.trans e613.symm)) : cx608 = _).trans z)
              have e615 : y595 = p612.2.1 := congrArg (fun z => z.2.1) (hE607.trans e613.symm)
              have e616 : y596 = p612.2.2.1 := congrArg (fun z => z.2.2.1) (hE607.trans e613.symm)
              have e617 : f597 = p612.2.2.2.1 := congrArg (fun z => z.2.2.2.1) (hE607.trans e613.symm)
              have e618 : y600 = p612.2.2.2.2.1 := congrArg (fun z => z.2.2.2.2.1) (hE607.trans e613.symm)
              have e619 : y601 = p612.2.2.2.2.2.1 := congrArg (fun z => z.2.2.2.2.2.1) (hE607.trans e613.symm)
              have e620 : y603 = p612.2.2.2.2.2.2.1 := congrArg (fun z => z.2.2.2.2.2.2.1) (hE607.trans e613.symm)
              have e621 : y604 = p612.2.2.2.2.2.2.2.1 := congrArg (fun z => z.2.2.2.2.2.2.2.1) (hE607.trans e613.symm)
              have e622 : f605 = p612.2.2.2.2.2.2.2.2 := congrArg (fun z => z.2.2.2.2.2.2.2.2) (hE607.trans e613.symm)
              replace hO536 := (hu611 _ (by have z0 := yd3; simp only [List.mem_cons, List.not_mem_nil, or_false, not_or]; omega)).trans hO536
              replace hO539 := (hu611 _ (by have z0 := yd3; simp only [List.mem_cons, List.not_mem_nil, or_false, not_or]; omega)).trans hO539
              replace hA543 := (hu611 _ (by have z0 := yd3; simp only [List.mem_cons, List.not_mem_nil, or_false, not_or]; omega)).trans hA543
              replace hT3 := (hu611 _ (by have z0 := yd3; simp only [List.mem_cons, List.not_mem_nil, or_false, not_or]; omega)).trans hT3
              replace hT4 := (hu611 _ (by have z0 := yd3; simp only [List.mem_cons, List.not_mem_nil, or_false, not_or]; omega)).trans hT4
              replace hO544 := (hu611 _ (by have z0 := yd3; simp only [List.mem_cons, List.not_mem_nil, or_false, not_or]; omega)).trans hO544
              replace hA548 := (hu611 _ (by have z0 := yd3; simp only [List.mem_cons, List.not_mem_nil, or_false, not_or]; omega)).trans hA548
              replace hF := q_uc hF hu611 (by simp)
              have hR623 := (show F_NH_decimal_abt_c139_9 x2 x3 x4 x5 t0_0 t0_1 t1_0 t1_1 t2_0 t3_0 t3_1 t4_0 t5_0 t5_1 t6_0 t7_0 t7_1 t8_0 t9_0 t9_1 t10_0 t11_0 t11_1 t12_0 t12_1 t13_0 lx58 p566 y537 y538 y540 y541 f542 y545 y546 f547 p612 = (F_NH_decimal_abt x2 x3 x4 x5 t0_0 t0_1 t1_0 t1_1 t2_0 t3_0 t3_1 t4_0 t5_0 t5_1 t6_0 t7_0 t7_1 t8_0 t9_0 t9_1 t10_0 t11_0 t11_1 t12_0 t12_1 t13_0) from Eq.trans (by have c588x := c588; rw [e568] at c588x; rw [e613, e576, e575, e574, e573, e572, e571, e570, e569, F_NH_decimal_abt_c78.eq_1, if_pos c588x]) hR577)
              have hS624 := (show True ∧ S_NH_decimal_abt_c139_9 x2 x3 x4 x5 t0_0 t0_1 t1_0 t1_1 t2_0 t3_0 t3_1 t4_0 t5_0 t5_1 t6_0 t7_0 t7_1 t8_0 t9_0 t9_1 t10_0 t11_0 t11_1 t12_0 t12_1 t13_0 lx58 p566 y537 y538 y540 y541 f542 y545 y546 f547 p612 from (by rw [e613, e576, e575, e574, e573, e572, e571, e570, e569]; have h := hS578; rw [S_NH_decimal_abt_c78.eq_1] at h; have c588x := c588; rw [e568] at c588x; rw [if_pos c588x] at h; replace h := q_s2 h; with_reducible exact h))
              exact q_outT hno C0 V (⟨p612.1, (he609.trans (congrArg qE ((congrArg (fun z => z.1) (hE607.trans e613.symm)) : cx608 = _))), c614, hI, hF, y537, y538, y540, y541, f542, t3_0, t3_1, t4_0, y545, y546, f547, y595, y596, f597, y600, y601, y603, y604, f605, hO536, hO539, hA543, hT3, hT4, hO544, hA548, hO594, hA598, hO599, hO602, hA606, (show (p612.1, y537, y538, y540, y541, f542, t3_0, t3_1, t4_0, y545, y546, f547, y595, y596, f597, y600, y601, y603, y604, f605) = (F_NH_decimal_abt x2 x3 x4 x5 t0_0 t0_1 t1_0 t1_1 t2_0 t3_0 t3_1 t4_0 t5_0 t5_1 t6_0 t7_0 t7_1 t8_0 t9_0 t9_1 t10_0 t11_0 t11_1 t12_0 t12_1 t13_0) from Eq.trans (by rw [e622, e621, e620, e619, e618, e617, e616, e615, F_NH_decimal_abt_c139_9.eq_1, if_neg c614]) hR623)⟩) hce hcv hcl (Nat.le_of_ble_eq_true rfl) (Nat.le_of_ble_eq_true rfl)
            ·
              obtain ⟨hI, hZ9⟩ := hp593
              obtain ⟨hu666, hZ9⟩ := hZ9
              obtain ⟨y629, hZ9⟩ := hZ9
              obtain ⟨y630, hZ9⟩ := hZ9
              obtain ⟨f631, hZ9⟩ := hZ9
              obtain ⟨y634, hZ9⟩ := hZ9
              obtain ⟨y635, hZ9⟩ := hZ9
              obtain ⟨y637, hZ9⟩ := hZ9
              obtain ⟨y638, hZ9⟩ := hZ9
              obtain ⟨f639, hZ9⟩ := hZ9
              obtain ⟨hO628, hZ9⟩ := hZ9
              obtain ⟨hA632, hZ9⟩ := hZ9
              obtain ⟨hO633, hZ9⟩ := hZ9
              obtain ⟨hO636, hZ9⟩ := hZ9
              obtain ⟨hA640, hZ9⟩ := hZ9
              obtain ⟨b641, hZ9⟩ := hZ9
              obtain ⟨b642, hZ9⟩ := hZ9
              obtain ⟨b643, hZ9⟩ := hZ9
              obtain ⟨b644, hZ9⟩ := hZ9
              obtain ⟨b645, hZ9⟩ := hZ9
              obtain ⟨b646, hZ9⟩ := hZ9
              obtain ⟨b647, hZ9⟩ := hZ9
              obtain ⟨b648, hZ9⟩ := hZ9
              obtain ⟨b649, hZ9⟩ := hZ9
              obtain ⟨b650, hZ9⟩ := hZ9
              obtain ⟨b651, hZ9⟩ := hZ9
              obtain ⟨b652, hZ9⟩ := hZ9
              obtain ⟨b653, hZ9⟩ := hZ9
              obtain ⟨b654, hZ9⟩ := hZ9
              obtain ⟨b655, hZ9⟩ := hZ9
              obtain ⟨b656, hZ9⟩ := hZ9
              obtain ⟨b657, hZ9⟩ := hZ9
              obtain ⟨b658, hZ9⟩ := hZ9
              obtain ⟨b659, hZ9⟩ := hZ9
              obtain ⟨b660, hZ9⟩ := hZ9
              obtain ⟨b661, hZ9⟩ := hZ9
              obtain ⟨b662, hZ9⟩ := hZ9
              obtain ⟨b663, hZ9⟩ := hZ9
              obtain ⟨b664, hE665⟩ := hZ9
              replace hO628 : u592[20]? = (some (q 20, .inr (2, [.ref (q 21), .int y629, .int y630])) : Option (Nat × va_E)) := hO628
              replace hA632 : u592[21]? = (some (q 21, .inl (g 0, (220 : Int32).toNatClampNeg, .inl f631)) : Option (Nat × va_E)) := hA632
              replace hO633 : u592[d3]? = (some (q d3, .inr (3, [.ref (q (d3 + 1)), .int y634, .int y635])) : Option (Nat × va_E)) := hO633
              replace hO636 : u592[d3 + 1]? = (some (q (d3 + 1), .inr (2, [.ref (q (d3 + 2)), .int y637, .int y638])) : Option (Nat × va_E)) := hO636
              replace hA640 : u592[d3 + 2]? = (some (q (d3 + 2), .inl (g 0, (108 : Int32).toNatClampNeg, .inl f639)) : Option (Nat × va_E)) := hA640
              obtain ⟨p612, e613⟩ : ∃ z, z = (F_NH_keepDecimal x5 y537 y538 y540 y541 f542 t9_0 t9_1 t10_0 t11_0 t11_1 t12_0 t12_1 t13_0) := ⟨_, rfl⟩
              have c614 : p612.1 = (0 : Int32) := ((congrArg (fun z => z.1) (hE665.trans e613.symm)) : (0 : Int32) = _).symm
              have e668 : y629 = p612.2.1 := congrArg (fun z => z.2.1) (hE665.trans e613.symm)
              have e669 : y630 = p612.2.2.1 := congrArg (fun z => z.2.2.1) (hE665.trans e613.symm)
              have e670 : f631 = p612.2.2.2.1 := congrArg (fun z => z.2.2.2.1) (hE665.trans e613.symm)
              have e671 : y634 = p612.2.2.2.2.1 := congrArg (fun z => z.2.2.2.2.1) (hE665.trans e613.symm)
              have e672 : y635 = p612.2.2.2.2.2.1 := congrArg (fun z => z.2.2.2.2.2.1) (hE665.trans e613.symm)
              have e673 : y637 = p612.2.2.2.2.2.2.1 := congrArg (fun z => z.2.2.2.2.2.2.1) (hE665.trans e613.symm)
              have e674 : y638 = p612.2.2.2.2.2.2.2.1 := congrArg (fun z => z.2.2.2.2.2.2.2.1) (hE665.trans e613.symm)
              have e675 : f639 = p612.2.2.2.2.2.2.2.2 := congrArg (fun z => z.2.2.2.2.2.2.2.2) (hE665.trans e613.symm)
              replace b641 : q_F (0 ≤ y629.toInt) := b641
              replace b642 : q_F (y629.toInt ≤ 220) := b642
              replace b643 : q_F (0 ≤ y630.toInt) := b643
              replace b644 : q_F (y630.toInt ≤ 1) := b644
              replace b645 : q_F (0 ≤ y634.toInt + 10000) := b645
              replace b646 : q_F (y634.toInt ≤ 10000) := b646
              replace b647 : q_F (1 ≤ y635.toInt) := b647
              replace b648 : q_F (y635.toInt ≤ 1000) := b648
              replace b649 : q_F (0 ≤ y637.toInt) := b649
              replace b650 : q_F (y637.toInt ≤ 108) := b650
              replace b651 : q_F (0 ≤ y638.toInt) := b651
              replace b652 : q_F (y638.toInt ≤ 1) := b652
              replace b653 : q_F (x5.toInt ≤ y629.toInt + 9) := b653
              replace b654 : q_F (y629.toInt ≤ x5.toInt + 220) := b654
              replace b655 : q_F (x5.toInt ≤ y630.toInt + 9) := b655
              replace b656 : q_F (y630.toInt ≤ x5.toInt + 1) := b656
              replace b657 : q_F (x5.toInt ≤ y634.toInt + 10009) := b657
              replace b658 : q_F (y634.toInt ≤ x5.toInt + 10000) := b658
              replace b659 : q_F (x5.toInt ≤ y635.toInt + 8) := b659
              replace b660 : q_F (y635.toInt ≤ x5.toInt + 1000) := b660
              replace b661 : q_F (x5.toInt ≤ y637.toInt + 9) := b661
              replace b662 : q_F (y637.toInt ≤ x5.toInt + 108) := b662
              replace b663 : q_F (x5.toInt ≤ y638.toInt + 9) := b663
              replace b664 : q_F (y638.toInt ≤ x5.toInt + 1) := b664
              replace hO536 := (hu666 _ (by have z0 := yd3; simp only [List.mem_cons, List.not_mem_nil, or_false, not_or]; omega)).trans hO536
              replace hO539 := (hu666 _ (by have z0 := yd3; simp only [List.mem_cons, List.not_mem_nil, or_false, not_or]; omega)).trans hO539
              replace hA543 := (hu666 _ (by have z0 := yd3; simp only [List.mem_cons, List.not_mem_nil, or_false, not_or]; omega)).trans hA543
              replace hT3 := (hu666 _ (by have z0 := yd3; simp only [List.mem_cons, List.not_mem_nil, or_false, not_or]; omega)).trans hT3
              replace hT4 := (hu666 _ (by have z0 := yd3; simp only [List.mem_cons, List.not_mem_nil, or_false, not_or]; omega)).trans hT4
              replace hO544 := (hu666 _ (by have z0 := yd3; simp only [List.mem_cons, List.not_mem_nil, or_false, not_or]; omega)).trans hO544
              replace hA548 := (hu666 _ (by have z0 := yd3; simp only [List.mem_cons, List.not_mem_nil, or_false, not_or]; omega)).trans hA548
              replace hF := q_uc hF hu666 (by simp)
              have hR623 := (show F_NH_decimal_abt_c139_9 x2 x3 x4 x5 t0_0 t0_1 t1_0 t1_1 t2_0 t3_0 t3_1 t4_0 t5_0 t5_1 t6_0 t7_0 t7_1 t8_0 t9_0 t9_1 t10_0 t11_0 t11_1 t12_0 t12_1 t13_0 lx58 p566 y537 y538 y540 y541 f542 y545 y546 f547 p612 = (F_NH_decimal_abt x2 x3 x4 x5 t0_0 t0_1 t1_0 t1_1 t2_0 t3_0 t3_1 t4_0 t5_0 t5_1 t6_0 t7_0 t7_1 t8_0 t9_0 t9_1 t10_0 t11_0 t11_1 t12_0 t12_1 t13_0) from Eq.trans (by have c588x := c588; rw [e568] at c588x; rw [e613, e576, e575, e574, e573, e572, e571, e570, e569, F_NH_decimal_abt_c78.eq_1, if_pos c588x]) hR577)
              have hS624 := (show True ∧ S_NH_decimal_abt_c139_9 x2 x3 x4 x5 t0_0 t0_1 t1_0 t1_1 t2_0 t3_0 t3_1 t4_0 t5_0 t5_1 t6_0 t7_0 t7_1 t8_0 t9_0 t9_1 t10_0 t11_0 t11_1 t12_0 t12_1 t13_0 lx58 p566 y537 y538 y540 y541 f542 y545 y546 f547 p612 from (by rw [e613, e576, e575, e574, e573, e572, e571, e570, e569]; have h := hS578; rw [S_NH_decimal_abt_c78.eq_1] at h; have c588x := c588; rw [e568] at c588x; rw [if_pos c588x] at h; replace h := q_s2 h; with_reducible exact h))
              exact q_retX (q_retv C0 V (⟨hI, hF, y537, y538, y540, y541, f542, t3_0, t3_1, t4_0, y545, y546, f547, y629, y630, f631, y634, y635, y637, y638, f639, hO536, hO539, hA543, hT3, hT4, hO544, hA548, hO628, hA632, hO633, hO636, hA640, (show 0 ≤ y537.toInt + 20000 from (by have t1 : -10000 ≤ t11_0.toInt ∧ t11_0.toInt ≤ 10000 := btt11_0; have t2 : t11_0.toInt ≤ y537.toInt := b560; omega)), (show y537.toInt ≤ 20000 from (by first | with_reducible exact q_fe b551 | (have t1 : y537.toInt ≤ 10000 := b551; omega))), (show 0 ≤ y538.toInt from (by have t1 : 0 ≤ t0_1.toInt ∧ t0_1.toInt ≤ 1 := btt0_1; have t2 : t0_1.toInt ≤ y538.toInt := b562; omega)), (show y538.toInt ≤ 1 from (by have t1 : 0 ≤ t0_1.toInt ∧ t0_1.toInt ≤ 1 := btt0_1; have t2 : y538.toInt ≤ t0_1.toInt := b563; omega)), (show 0 ≤ y540.toInt from (by first | with_reducible exact q_fe b552 | (have t1 : 0 ≤ y540.toInt := b552; omega))), (show y540.toInt ≤ 220 from (by first | with_reducible exact q_fe b553 | (have t1 : y540.toInt ≤ 220 := b553; omega))), (show 0 ≤ y541.toInt from (by first | with_reducible exact q_fe b554 | (have t1 : 0 ≤ y541.toInt := b554; omega))), (show y541.toInt ≤ 1 from (by first | with_reducible exact q_fe b555 | (have t1 : y541.toInt ≤ 1 := b555; omega))), (show 0 ≤ t3_0.toInt from (by first | with_reducible exact (q_fe btt3_0).2 | with_reducible exact (q_fe btt3_0).1 | (have t1 : 0 ≤ t3_0.toInt ∧ t3_0.toInt ≤ 220 := btt3_0; omega))), (show t3_0.toInt ≤ 220 from (by first | with_reducible exact (q_fe btt3_0).2 | with_reducible exact (q_fe btt3_0).1 | (have t1 : 0 ≤ t3_0.toInt ∧ t3_0.toInt ≤ 220 := btt3_0; omega))), (show 0 ≤ t3_1.toInt from (by first | with_reducible exact (q_fe btt3_1).2 | with_reducible exact (q_fe btt3_1).1 | (have t1 : 0 ≤ t3_1.toInt ∧ t3_1.toInt ≤ 1 := btt3_1; omega))), (show t3_1.toInt ≤ 1 from (by first | with_reducible exact (q_fe btt3_1).2 | with_reducible exact (q_fe btt3_1).1 | (have t1 : 0 ≤ t3_1.toInt ∧ t3_1.toInt ≤ 1 := btt3_1; omega))), (show 0 ≤ y545.toInt from (by first | with_reducible exact q_fe b556 | (have t1 : 0 ≤ y545.toInt := b556; omega))), (show y545.toInt ≤ 220 from (by first | with_reducible exact q_fe b557 | (have t1 : y545.toInt ≤ 220 := b557; omega))), (show 0 ≤ y546.toInt from (by first | with_reducible exact q_fe b558 | (have t1 : 0 ≤ y546.toInt := b558; omega))), (show y546.toInt ≤ 2 from (by first | with_reducible exact q_fe b559 | (have t1 : y546.toInt ≤ 1 := b559; omega))), (show 0 ≤ y629.toInt from (by first | with_reducible exact q_fe b641 | (have t1 : 0 ≤ y629.toInt := b641; omega))), (show y629.toInt ≤ 220 from (by first | with_reducible exact q_fe b642 | (have t1 : y629.toInt ≤ 220 := b642; omega))), (show 0 ≤ y630.toInt from (by first | with_reducible exact q_fe b643 | (have t1 : 0 ≤ y630.toInt := b643; omega))), (show y630.toInt ≤ 1 from (by first | with_reducible exact q_fe b644 | (have t1 : y630.toInt ≤ 1 := b644; omega))), (show 0 ≤ y634.toInt + 10000 from (by first | with_reducible exact q_fe b645 | (have t1 : 0 ≤ y634.toInt + 10000 := b645; omega))), (show y634.toInt ≤ 10000 from (by first | with_reducible exact q_fe b646 | (have t1 : y634.toInt ≤ 10000 := b646; omega))), (show 1 ≤ y635.toInt from (by first | with_reducible exact q_fe b647 | (have t1 : 1 ≤ y635.toInt := b647; omega))), (show y635.toInt ≤ 1000 from (by first | with_reducible exact q_fe b648 | (have t1 : y635.toInt ≤ 1000 := b648; omega))), (show 0 ≤ y637.toInt from (by first | with_reducible exact q_fe b649 | (have t1 : 0 ≤ y637.toInt := b649; omega))), (show y637.toInt ≤ 108 from (by first | with_reducible exact q_fe b650 | (have t1 : y637.toInt ≤ 108 := b650; omega))), (show 0 ≤ y638.toInt from (by first | with_reducible exact q_fe b651 | (have t1 : 0 ≤ y638.toInt := b651; omega))), (show y638.toInt ≤ 1 from (by first | with_reducible exact q_fe b652 | (have t1 : y638.toInt ≤ 1 := b652; omega))), (show x3.toInt ≤ y537.toInt + 20009 from (by have t1 : -10000 ≤ t11_0.toInt ∧ t11_0.toInt ≤ 10000 := btt11_0; have t2 : x3.toInt ≤ 9 := ob93; have t3 : t11_0.toInt ≤ y537.toInt := b560; omega)), (show y537.toInt ≤ x3.toInt + 20000 from (by have t1 : 0 ≤ x3.toInt := ob92; have t2 : y537.toInt ≤ 10000 := b551; omega)), (show x4.toInt ≤ y537.toInt + 20009 from (by have t1 : -10000 ≤ t11_0.toInt ∧ t11_0.toInt ≤ 10000 := btt11_0; have t2 : x4.toInt ≤ 9 := ob98; have t3 : t11_0.toInt ≤ y537.toInt := b560; omega)), (show y537.toInt ≤ x4.toInt + 20000 from (by have t1 : 0 ≤ x4.toInt := ob97; have t2 : y537.toInt ≤ 10000 := b551; omega)), (show t11_0.toInt ≤ y537.toInt + 10000 from (by first | with_reducible exact q_fe b560 | (have t1 : t11_0.toInt ≤ y537.toInt := b560; omega))), (show y537.toInt ≤ t11_0.toInt + 20000 from (by have t1 : -10000 ≤ t11_0.toInt ∧ t11_0.toInt ≤ 10000 := btt11_0; have t2 : y537.toInt ≤ 10000 := b551; omega)), (show x3.toInt ≤ y538.toInt + 9 from (by have t1 : 0 ≤ t0_1.toInt ∧ t0_1.toInt ≤ 1 := btt0_1; have t2 : x3.toInt ≤ 9 := ob93; have t3 : t0_1.toInt ≤ y538.toInt := b562; omega)), (show y538.toInt ≤ x3.toInt + 1 from (by have t1 : 0 ≤ t0_1.toInt ∧ t0_1.toInt ≤ 1 := btt0_1; have t2 : 0 ≤ x3.toInt := ob92; have t3 : y538.toInt ≤ t0_1.toInt := b563; omega)), (show x4.toInt ≤ y538.toInt + 9 from (by have t1 : 0 ≤ t0_1.toInt ∧ t0_1.toInt ≤ 1 := btt0_1; have t2 : x4.toInt ≤ 9 := ob98; have t3 : t0_1.toInt ≤ y538.toInt := b562; omega)), (show y538.toInt ≤ x4.toInt + 1 from (by have t1 : 0 ≤ t0_1.toInt ∧ t0_1.toInt ≤ 1 := btt0_1; have t2 : 0 ≤ x4.toInt := ob97; have t3 : y538.toInt ≤ t0_1.toInt := b563; omega)), (show t0_1.toInt ≤ y538.toInt from (by first | with_reducible exact q_fe b562 | (have t1 : t0_1.toInt ≤ y538.toInt := b562; omega))), (show y538.toInt ≤ t0_1.toInt from (by first | with_reducible exact q_fe b563 | (have t1 : y538.toInt ≤ t0_1.toInt := b563; omega))), (show x3.toInt ≤ y540.toInt + 9 from (by have t1 : x3.toInt ≤ 9 := ob93; have t2 : 0 ≤ y540.toInt := b552; omega)), (show y540.toInt ≤ x3.toInt + 220 from (by have t1 : 0 ≤ x3.toInt := ob92; have t2 : y540.toInt ≤ 220 := b553; omega)), (show x4.toInt ≤ y540.toInt + 9 from (by have t1 : x4.toInt ≤ 9 := ob98; have t2 : 0 ≤ y540.toInt := b552; omega)), (show y540.toInt ≤ x4.toInt + 220 from (by have t1 : 0 ≤ x4.toInt := ob97; have t2 : y540.toInt ≤ 220 := b553; omega)), (show x3.toInt ≤ y541.toInt + 9 from (by have t1 : x3.toInt ≤ 9 := ob93; have t2 : 0 ≤ y541.toInt := b554; omega)), (show y541.toInt ≤ x3.toInt + 1 from (by have t1 : 0 ≤ x3.toInt := ob92; have t2 : y541.toInt ≤ 1 := b555; omega)), (show x4.toInt ≤ y541.toInt + 9 from (by have t1 : x4.toInt ≤ 9 := ob98; have t2 : 0 ≤ y541.toInt := b554; omega)), (show y541.toInt ≤ x4.toInt + 1 from (by have t1 : 0 ≤ x4.toInt := ob97; have t2 : y541.toInt ≤ 1 := b555; omega)), (show x3.toInt ≤ t3_0.toInt + 9 from (by have t1 : 0 ≤ t3_0.toInt ∧ t3_0.toInt ≤ 220 := btt3_0; have t2 : x3.toInt ≤ 9 := ob93; omega)), (show t3_0.toInt ≤ x3.toInt + 220 from (by have t1 : 0 ≤ t3_0.toInt ∧ t3_0.toInt ≤ 220 := btt3_0; have t2 : 0 ≤ x3.toInt := ob92; omega)), (show x4.toInt ≤ t3_0.toInt + 9 from (by have t1 : 0 ≤ t3_0.toInt ∧ t3_0.toInt ≤ 220 := btt3_0; have t2 : x4.toInt ≤ 9 := ob98; omega)), (show t3_0.toInt ≤ x4.toInt + 220 from (by have t1 : 0 ≤ t3_0.toInt ∧ t3_0.toInt ≤ 220 := btt3_0; have t2 : 0 ≤ x4.toInt := ob97; omega)), (show x3.toInt ≤ t3_1.toInt + 9 from (by have t1 : 0 ≤ t3_1.toInt ∧ t3_1.toInt ≤ 1 := btt3_1; have t2 : x3.toInt ≤ 9 := ob93; omega)), (show t3_1.toInt ≤ x3.toInt + 1 from (by have t1 : 0 ≤ t3_1.toInt ∧ t3_1.toInt ≤ 1 := btt3_1; have t2 : 0 ≤ x3.toInt := ob92; omega)), (show x4.toInt ≤ t3_1.toInt + 9 from (by have t1 : 0 ≤ t3_1.toInt ∧ t3_1.toInt ≤ 1 := btt3_1; have t2 : x4.toInt ≤ 9 := ob98; omega)), (show t3_1.toInt ≤ x4.toInt + 1 from (by have t1 : 0 ≤ t3_1.toInt ∧ t3_1.toInt ≤ 1 := btt3_1; have t2 : 0 ≤ x4.toInt := ob97; omega)), (show t3_1.toInt ≤ t3_1.toInt from (by omega)), (show x3.toInt ≤ y545.toInt + 9 from (by have t1 : x3.toInt ≤ 9 := ob93; have t2 : 0 ≤ y545.toInt := b556; omega)), (show y545.toInt ≤ x3.toInt + 220 from (by have t1 : 0 ≤ x3.toInt := ob92; have t2 : y545.toInt ≤ 220 := b557; omega)), (show x4.toInt ≤ y545.toInt + 9 from (by have t1 : x4.toInt ≤ 9 := ob98; have t2 : 0 ≤ y545.toInt := b556; omega)), (show y545.toInt ≤ x4.toInt + 220 from (by have t1 : 0 ≤ x4.toInt := ob97; have t2 : y545.toInt ≤ 220 := b557; omega)), (show x3.toInt ≤ y546.toInt + 9 from (by have t1 : x3.toInt ≤ 9 := ob93; have t2 : 0 ≤ y546.toInt := b558; omega)), (show x4.toInt ≤ y546.toInt + 9 from (by have t1 : x4.toInt ≤ 9 := ob98; have t2 : 0 ≤ y546.toInt := b558; omega)), (show y546.toInt ≤ t12_1.toInt + 1 from (by have t1 : 0 ≤ t12_1.toInt ∧ t12_1.toInt ≤ 1 := btt12_1; have t2 : y546.toInt ≤ 1 := b559; omega)), (show x3.toInt ≤ y629.toInt + 9 from (by have t1 : x3.toInt ≤ 9 := ob93; have t2 : 0 ≤ y629.toInt := b641; omega)), (show y629.toInt ≤ x3.toInt + 220 from (by have t1 : 0 ≤ x3.toInt := ob92; have t2 : y629.toInt ≤ 220 := b642; omega)), (show x4.toInt ≤ y629.toInt + 9 from (by have t1 : x4.toInt ≤ 9 := ob98; have t2 : 0 ≤ y629.toInt := b641; omega)), (show y629.toInt ≤ x4.toInt + 220 from (by have t1 : 0 ≤ x4.toInt := ob97; have t2 : y629.toInt ≤ 220 := b642; omega)), (show x5.toInt ≤ y629.toInt + 9 from (by first | with_reducible exact q_fe b653 | (have t1 : x5.toInt ≤ y629.toInt + 9 := b653; omega))), (show y629.toInt ≤ x5.toInt + 220 from (by first | with_reducible exact q_fe b654 | (have t1 : y629.toInt ≤ x5.toInt + 220 := b654; omega))), (show x3.toInt ≤ y630.toInt + 9 from (by have t1 : x3.toInt ≤ 9 := ob93; have t2 : 0 ≤ y630.toInt := b643; omega)), (show y630.toInt ≤ x3.toInt + 1 from (by have t1 : 0 ≤ x3.toInt := ob92; have t2 : y630.toInt ≤ 1 := b644; omega)), (show x4.toInt ≤ y630.toInt + 9 from (by have t1 : x4.toInt ≤ 9 := ob98; have t2 : 0 ≤ y630.toInt := b643; omega)), (show y630.toInt ≤ x4.toInt + 1 from (by have t1 : 0 ≤ x4.toInt := ob97; have t2 : y630.toInt ≤ 1 := b644; omega)), (show x5.toInt ≤ y630.toInt + 9 from (by first | with_reducible exact q_fe b655 | (have t1 : x5.toInt ≤ y630.toInt + 9 := b655; omega))), (show y630.toInt ≤ x5.toInt + 1 from (by first | with_reducible exact q_fe b656 | (have t1 : y630.toInt ≤ x5.toInt + 1 := b656; omega))), (show x3.toInt ≤ y634.toInt + 10009 from (by have t1 : x3.toInt ≤ 9 := ob93; have t2 : 0 ≤ y634.toInt + 10000 := b645; omega)), (show y634.toInt ≤ x3.toInt + 10000 from (by have t1 : 0 ≤ x3.toInt := ob92; have t2 : y634.toInt ≤ 10000 := b646; omega)), (show x4.toInt ≤ y634.toInt + 10009 from (by have t1 : x4.toInt ≤ 9 := ob98; have t2 : 0 ≤ y634.toInt + 10000 := b645; omega)), (show y634.toInt ≤ x4.toInt + 10000 from (by have t1 : 0 ≤ x4.toInt := ob97; have t2 : y634.toInt ≤ 10000 := b646; omega)), (show x5.toInt ≤ y634.toInt + 10009 from (by first | with_reducible exact q_fe b657 | (have t1 : x5.toInt ≤ y634.toInt + 10009 := b657; omega))), (show y634.toInt ≤ x5.toInt + 10000 from (by first | with_reducible exact q_fe b658 | (have t1 : y634.toInt ≤ x5.toInt + 10000 := b658; omega))), (show x3.toInt ≤ y635.toInt + 8 from (by have t1 : x3.toInt ≤ 9 := ob93; have t2 : 1 ≤ y635.toInt := b647; omega)), (show y635.toInt ≤ x3.toInt + 1000 from (by have t1 : 0 ≤ x3.toInt := ob92; have t2 : y635.toInt ≤ 1000 := b648; omega)), (show x4.toInt ≤ y635.toInt + 8 from (by have t1 : x4.toInt ≤ 9 := ob98; have t2 : 1 ≤ y635.toInt := b647; omega)), (show y635.toInt ≤ x4.toInt + 1000 from (by have t1 : 0 ≤ x4.toInt := ob97; have t2 : y635.toInt ≤ 1000 := b648; omega)), (show x5.toInt ≤ y635.toInt + 8 from (by first | with_reducible exact q_fe b659 | (have t1 : x5.toInt ≤ y635.toInt + 8 := b659; omega))), (show y635.toInt ≤ x5.toInt + 1000 from (by first | with_reducible exact q_fe b660 | (have t1 : y635.toInt ≤ x5.toInt + 1000 := b660; omega))), (show x3.toInt ≤ y637.toInt + 9 from (by have t1 : x3.toInt ≤ 9 := ob93; have t2 : 0 ≤ y637.toInt := b649; omega)), (show y637.toInt ≤ x3.toInt + 108 from (by have t1 : 0 ≤ x3.toInt := ob92; have t2 : y637.toInt ≤ 108 := b650; omega)), (show x4.toInt ≤ y637.toInt + 9 from (by have t1 : x4.toInt ≤ 9 := ob98; have t2 : 0 ≤ y637.toInt := b649; omega)), (show y637.toInt ≤ x4.toInt + 108 from (by have t1 : 0 ≤ x4.toInt := ob97; have t2 : y637.toInt ≤ 108 := b650; omega)), (show x5.toInt ≤ y637.toInt + 9 from (by first | with_reducible exact q_fe b661 | (have t1 : x5.toInt ≤ y637.toInt + 9 := b661; omega))), (show y637.toInt ≤ x5.toInt + 108 from (by first | with_reducible exact q_fe b662 | (have t1 : y637.toInt ≤ x5.toInt + 108 := b662; omega))), (show x3.toInt ≤ y638.toInt + 9 from (by have t1 : x3.toInt ≤ 9 := ob93; have t2 : 0 ≤ y638.toInt := b651; omega)), (show y638.toInt ≤ x3.toInt + 1 from (by have t1 : 0 ≤ x3.toInt := ob92; have t2 : y638.toInt ≤ 1 := b652; omega)), (show x4.toInt ≤ y638.toInt + 9 from (by have t1 : x4.toInt ≤ 9 := ob98; have t2 : 0 ≤ y638.toInt := b651; omega)), (show y638.toInt ≤ x4.toInt + 1 from (by have t1 : 0 ≤ x4.toInt := ob97; have t2 : y638.toInt ≤ 1 := b652; omega)), (show x5.toInt ≤ y638.toInt + 9 from (by first | with_reducible exact q_fe b663 | (have t1 : x5.toInt ≤ y638.toInt + 9 := b663; omega))), (show y638.toInt ≤ x5.toInt + 1 from (by first | with_reducible exact q_fe b664 | (have t1 : y638.toInt ≤ x5.toInt + 1 := b664; omega))), (show y546.toInt ≤ y537.toInt + 20001 from (by have t1 : -10000 ≤ t11_0.toInt ∧ t11_0.toInt ≤ 10000 := btt11_0; have t2 : y546.toInt ≤ 1 := b559; have t3 : t11_0.toInt ≤ y537.toInt := b560; omega)), (show y546.toInt ≤ y541.toInt + 1 from (by have t1 : 0 ≤ y541.toInt := b554; have t2 : y546.toInt ≤ 1 := b559; omega)), (show ((0 : Int32), y537, y538, y540, y541, f542, t3_0, t3_1, t4_0, y545, y546, f547, y629, y630, f631, y634, y635, y637, y638, f639) = (F_NH_decimal_abt x2 x3 x4 x5 t0_0 t0_1 t1_0 t1_1 t2_0 t3_0 t3_1 t4_0 t5_0 t5_1 t6_0 t7_0 t7_1 t8_0 t9_0 t9_1 t10_0 t11_0 t11_1 t12_0 t12_1 t13_0) from Eq.trans (by rw [e675, e674, e673, e672, e671, e670, e669, e668, F_NH_decimal_abt_c139_9.eq_1, if_pos c614]) hR623)⟩) d_1_11_142)
        ·
          refine lv_iconst (v := 1) hx hb d_1_11_73 (by decide) ?_
          refine lv_goto (tgt := 78) hx hb d_1_11_74 (by decide) ?_
          refine q_goi V (q_runV (As := [.ref (q d3), .ref (q d3), .int 1]) (rest := []) (d := 4) (mc := 0) (ms := 0) (ci := 5) C0 V rfl LV_NH_269 (X_DW_sum l D g q ws d3 108 hBd3 (Or.inr yd3) d3 108 hBd3 (Or.inr yd3) 1 (by have z0 := yd3; omega) (by have z0 := yd3; omega) (by have z0 := yd3; omega) (by have z0 := yd3; omega) (by have z0 := yd3; omega) (by have z0 := yd3; omega) (by have z0 := yd3; omega) (by have z0 := yd3; omega) (by have z0 := yd3; omega) (by have z0 := yd3; omega) (by have z0 := yd3; omega) (by have z0 := yd3; omega) (by have z0 := yd3; omega) (by have z0 := yd3; omega) (by have z0 := yd3; omega) (by have z0 := yd3; omega) (by have z0 := yd3; omega) (by have z0 := yd3; omega) (by have z0 := yd3; omega) (by have z0 := yd3; omega) (by have z0 := yd3; omega) (by have z0 := yd3; omega) (by have z0 := yd3; omega) (by have z0 := yd3; omega) hI t0_0 t0_1 hT0 t1_0 t1_1 hT1 t2_0 hT2 t5_0 t5_1 hT5 t6_0 hT6 t11_0 t11_1 hT11 t12_0 t12_1 hT12 t13_0 hT13 t11_0 t11_1 hT11 t12_0 t12_1 hT12 t13_0 hT13 ⟨(by have y0 : (108 : Int32).toInt = 108 := rfl; have y1 : (108 : Int32).toInt = 108 := rfl; have y2 : (1 : Int32).toInt = 1 := rfl; omega), (by have y0 : (108 : Int32).toInt = 108 := rfl; have y1 : (108 : Int32).toInt = 108 := rfl; have y2 : (1 : Int32).toInt = 1 := rfl; omega)⟩ _) rfl rfl hT0 rfl hl.1 rfl (Nat.le_of_ble_eq_true rfl) ⟨by decide, by decide⟩ ⟨Nat.le_of_ble_eq_true rfl, Nat.le_of_ble_eq_true rfl⟩ d_1_11_78) (fun a679 u677 H locs hp678 V => ?_)
          obtain ⟨hI, hZ9⟩ := hp678
          obtain ⟨hu709, hZ9⟩ := hZ9
          obtain ⟨y681, hZ9⟩ := hZ9
          obtain ⟨y682, hZ9⟩ := hZ9
          obtain ⟨y684, hZ9⟩ := hZ9
          obtain ⟨y685, hZ9⟩ := hZ9
          obtain ⟨f686, hZ9⟩ := hZ9
          obtain ⟨y689, hZ9⟩ := hZ9
          obtain ⟨y690, hZ9⟩ := hZ9
          obtain ⟨f691, hZ9⟩ := hZ9
          obtain ⟨hO680, hZ9⟩ := hZ9
          obtain ⟨hO683, hZ9⟩ := hZ9
          obtain ⟨hA687, hZ9⟩ := hZ9
          obtain ⟨hO688, hZ9⟩ := hZ9
          obtain ⟨hA692, hZ9⟩ := hZ9
          obtain ⟨b693, hZ9⟩ := hZ9
          obtain ⟨b694, hZ9⟩ := hZ9
          obtain ⟨b695, hZ9⟩ := hZ9
          obtain ⟨b696, hZ9⟩ := hZ9
          obtain ⟨b697, hZ9⟩ := hZ9
          obtain ⟨b698, hZ9⟩ := hZ9
          obtain ⟨b699, hZ9⟩ := hZ9
          obtain ⟨b700, hZ9⟩ := hZ9
          obtain ⟨b701, hZ9⟩ := hZ9
          obtain ⟨b702, hZ9⟩ := hZ9
          obtain ⟨b703, hZ9⟩ := hZ9
          obtain ⟨b704, hZ9⟩ := hZ9
          replace hZ9 := hZ9.2
          obtain ⟨b706, hZ9⟩ := hZ9
          obtain ⟨b707, hE708⟩ := hZ9
          replace hO680 : u677[30]? = (some (q 30, .inr (5, [.ref (q 31), .long y681, .ref (q 9), .int y682])) : Option (Nat × va_E)) := hO680
          replace hO683 : u677[10]? = (some (q 10, .inr (2, [.ref (q 11), .int y684, .int y685])) : Option (Nat × va_E)) := hO683
          replace hA687 : u677[11]? = (some (q 11, .inl (g 0, (220 : Int32).toNatClampNeg, .inl f686)) : Option (Nat × va_E)) := hA687
          replace hO688 : u677[22]? = (some (q 22, .inr (2, [.ref (q 23), .int y689, .int y690])) : Option (Nat × va_E)) := hO688
          replace hA692 : u677[23]? = (some (q 23, .inl (g 0, (220 : Int32).toNatClampNeg, .inl f691)) : Option (Nat × va_E)) := hA692
          obtain ⟨p710, e711⟩ : ∃ z, z = (F_DW_sum (108 : Int32) (108 : Int32) (1 : Int32) t0_0 t0_1 t1_0 t1_1 t2_0 t5_0 t5_1 t6_0 t11_0 t11_1 t12_0 t12_1 t13_0 t11_0 t11_1 t12_0 t12_1 t13_0) := ⟨_, rfl⟩
          have e712 : a679 = p710.1 := congrArg (fun z => z.1) (hE708.trans e711.symm)
          have e713 : y681 = p710.2.1 := congrArg (fun z => z.2.1) (hE708.trans e711.symm)
          have e714 : y682 = p710.2.2.1 := congrArg (fun z => z.2.2.1) (hE708.trans e711.symm)
          have e715 : y684 = p710.2.2.2.1 := congrArg (fun z => z.2.2.2.1) (hE708.trans e711.symm)
          have e716 : y685 = p710.2.2.2.2.1 := congrArg (fun z => z.2.2.2.2.1) (hE708.trans e711.symm)
          have e717 : f686 = p710.2.2.2.2.2.1 := congrArg (fun z => z.2.2.2.2.2.1) (hE708.trans e711.symm)
          have e718 : y689 = p710.2.2.2.2.2.2.1 := congrArg (fun z => z.2.2.2.2.2.2.1) (hE708.trans e711.symm)
          have e719 : y690 = p710.2.2.2.2.2.2.2.1 := congrArg (fun z => z.2.2.2.2.2.2.2.1) (hE708.trans e711.symm)
          have e720 : f691 = p710.2.2.2.2.2.2.2.2 := congrArg (fun z => z.2.2.2.2.2.2.2.2) (hE708.trans e711.symm)
          replace b693 : q_F (0 ≤ a679.toInt) := b693
          replace b694 : q_F (a679.toInt ≤ 1) := b694
          replace b695 : q_F (y681.toInt ≤ 10000) := b695
          replace b696 : q_F (0 ≤ y684.toInt) := b696
          replace b697 : q_F (y684.toInt ≤ 220) := b697
          replace b698 : q_F (0 ≤ y685.toInt) := b698
          replace b699 : q_F (y685.toInt ≤ 1) := b699
          replace b700 : q_F (0 ≤ y689.toInt) := b700
          replace b701 : q_F (y689.toInt ≤ 220) := b701
          replace b702 : q_F (0 ≤ y690.toInt) := b702
          replace b703 : q_F (y690.toInt ≤ 1) := b703
          replace b704 : q_F (t11_0.toInt ≤ y681.toInt) := b704
          replace b706 : q_F (t0_1.toInt ≤ y682.toInt) := b706
          replace b707 : q_F (y682.toInt ≤ t0_1.toInt) := b707
          replace hT3 := (hu709 _ (by decide)).trans hT3
          replace hT4 := (hu709 _ (by decide)).trans hT4
          replace hT9 := (hu709 _ (by decide)).trans hT9
          replace hT10 := (hu709 _ (by decide)).trans hT10
          replace hT11 := (hu709 _ (by have z0 := yd3; simp only [List.mem_cons, List.not_mem_nil, or_false, not_or]; omega)).trans hT11
          replace hT12 := (hu709 _ (by have z0 := yd3; simp only [List.mem_cons, List.not_mem_nil, or_false, not_or]; omega)).trans hT12
          replace hT13 := (hu709 _ (by have z0 := yd3; simp only [List.mem_cons, List.not_mem_nil, or_false, not_or]; omega)).trans hT13
          replace hO90 := (hu709 _ (by decide)).trans hO90
          replace hF := q_uc hF hu709 (by simp)
          have hR721 := (show F_NH_decimal_abt_c78_10 x2 x3 x4 x5 t0_0 t0_1 t1_0 t1_1 t2_0 t3_0 t3_1 t4_0 t5_0 t5_1 t6_0 t7_0 t7_1 t8_0 t9_0 t9_1 t10_0 t11_0 t11_1 t12_0 t12_1 t13_0 lx58 p710 = (F_NH_decimal_abt x2 x3 x4 x5 t0_0 t0_1 t1_0 t1_1 t2_0 t3_0 t3_1 t4_0 t5_0 t5_1 t6_0 t7_0 t7_1 t8_0 t9_0 t9_1 t10_0 t11_0 t11_1 t12_0 t12_1 t13_0) from Eq.trans (by rw [e711, F_NH_decimal_abt_J36.eq_1, if_pos c87, if_neg c101, if_pos c531]) hR76)
          have hS722 := (show True ∧ S_NH_decimal_abt_c78_10 x2 x3 x4 x5 t0_0 t0_1 t1_0 t1_1 t2_0 t3_0 t3_1 t4_0 t5_0 t5_1 t6_0 t7_0 t7_1 t8_0 t9_0 t9_1 t10_0 t11_0 t11_1 t12_0 t12_1 t13_0 lx58 p710 from (by rw [e711]; have h := hS77; rw [S_NH_decimal_abt_J36.eq_1] at h; rw [if_pos c87] at h; replace h := q_s2 h; replace h := q_s2 h; replace h := q_s2 h; replace h := q_s2 h; rw [if_neg c101] at h; rw [if_pos c531] at h; with_reducible exact h))
          refine q_goxv V (q_runSX (As := [.int a679]) (rest := []) (d := 7) (mc := 1) (ms := 6) C0 V rfl LS_NH_138 (X_NH_canHave l D g q u677  a679 hlt hI  ⟨(by first | with_reducible exact q_fe b693 | (have t1 : 0 ≤ a679.toInt := b693; omega)), (by first | with_reducible exact q_fe b694 | (have t1 : a679.toInt ≤ 1 := b694; omega))⟩ _) rfl hl.1 rfl (Nat.le_of_ble_eq_true rfl) ⟨by decide, by decide⟩ ⟨Nat.le_of_ble_eq_true rfl, Nat.le_of_ble_eq_true rfl⟩ d_1_11_81) (fun qx Ex ce u726 H locs hp727 V hce hcv hcl => ?_) (fun u726 H locs hp727 V => ?_)
          ·
            obtain ⟨cx729, he730, hc731, rfl, hE728⟩ := hp727
            have c732 : ¬ (F_NH_canHave a679) = (0 : Int32) := fun z => hc731 (((hE728) : cx729 = _).trans z)
            exact q_outT hno C0 V (⟨(F_NH_canHave a679), (he730.trans (congrArg qE ((hE728) : cx729 = _))), c732, hI, hF, y681, y682, y684, y685, f686, t3_0, t3_1, t4_0, y689, y690, f691, t9_0, t9_1, t10_0, t11_0, t11_1, t12_0, t12_1, t13_0, hO680, hO683, hA687, hT3, hT4, hO688, hA692, hT9, hT10, hT11, hT12, hT13, (show ((F_NH_canHave a679), y681, y682, y684, y685, f686, t3_0, t3_1, t4_0, y689, y690, f691, t9_0, t9_1, t10_0, t11_0, t11_1, t12_0, t12_1, t13_0) = (F_NH_decimal_abt x2 x3 x4 x5 t0_0 t0_1 t1_0 t1_1 t2_0 t3_0 t3_1 t4_0 t5_0 t5_1 t6_0 t7_0 t7_1 t8_0 t9_0 t9_1 t10_0 t11_0 t11_1 t12_0 t12_1 t13_0) from Eq.trans (by have c732x := c732; rw [e712] at c732x; rw [e720, e719, e718, e717, e716, e715, e714, e713, e712, F_NH_decimal_abt_c78_10.eq_1, if_neg c732x]) hR721)⟩) hce hcv hcl (Nat.le_of_ble_eq_true rfl) (Nat.le_of_ble_eq_true rfl)
          ·
            obtain ⟨rfl, hE733⟩ := hp727
            have c732 : (F_NH_canHave a679) = (0 : Int32) := ((hE733) : (0 : Int32) = _).symm
            refine lv_goto (tgt := 136) hx hb d_1_11_84 (by decide) ?_
            refine lv_aload_n hx hb d_1_11_136 rfl (lv_at hl 2 rfl) ?_
            refine lv_iload hx hb d_1_11_137 (lv_at hl 6 rfl) ?_
            have ob735 : True ∧ S_NH_keepDecimal x5 y681 y682 y684 y685 f686 t9_0 t9_1 t10_0 t11_0 t11_1 t12_0 t12_1 t13_0 := (by rw [e717, e716, e715, e714, e713]; have h := hS722; rw [S_NH_decimal_abt_c78_10.eq_1] at h; have c732x := c732; rw [e712] at c732x; rw [if_pos c732x] at h; with_reducible exact h.2.1)
            refine q_goxv V (q_runVX (As := [.int x5]) (rest := []) (d := 8) (mc := 1) (ms := 6) (ci := 0) C0 V rfl LV_NH_281 (X_NH_keepDecimal l D g q u677  x5 d3 hBd3 yd3 gd3x5 hlt hI y681 y682 hO680 y684 y685 hO683 f686 hA687 t9_0 t9_1 hT9 t10_0 hT10 t11_0 t11_1 hT11 t12_0 t12_1 hT12 t13_0 hT13 ob735 _) rfl rfl hO90 rfl hl.1 rfl (Nat.le_of_ble_eq_true rfl) ⟨by decide, by decide⟩ ⟨Nat.le_of_ble_eq_true rfl, Nat.le_of_ble_eq_true rfl⟩ d_1_11_139) (fun qx Ex ce u736 H locs hp737 V hce hcv hcl => ?_) (fun u736 H locs hp737 V => ?_)
            ·
              obtain ⟨cx752, hZ9⟩ := hp737
              obtain ⟨he753, hZ9⟩ := hZ9
              obtain ⟨hc754, hZ9⟩ := hZ9
              obtain ⟨hI, hZ9⟩ := hZ9
              obtain ⟨hu755, hZ9⟩ := hZ9
              obtain ⟨y739, hZ9⟩ := hZ9
              obtain ⟨y740, hZ9⟩ := hZ9
              obtain ⟨f741, hZ9⟩ := hZ9
              obtain ⟨y744, hZ9⟩ := hZ9
              obtain ⟨y745, hZ9⟩ := hZ9
              obtain ⟨y747, hZ9⟩ := hZ9
              obtain ⟨y748, hZ9⟩ := hZ9
              obtain ⟨f749, hZ9⟩ := hZ9
              obtain ⟨hO738, hZ9⟩ := hZ9
              obtain ⟨hA742, hZ9⟩ := hZ9
              obtain ⟨hO743, hZ9⟩ := hZ9
              obtain ⟨hO746, hZ9⟩ := hZ9
              obtain ⟨hA750, hE751⟩ := hZ9
              replace hO738 : u736[20]? = (some (q 20, .inr (2, [.ref (q 21), .int y739, .int y740])) : Option (Nat × va_E)) := hO738
              replace hA742 : u736[21]? = (some (q 21, .inl (g 0, (220 : Int32).toNatClampNeg, .inl f741)) : Option (Nat × va_E)) := hA742
              replace hO743 : u736[d3]? = (some (q d3, .inr (3, [.ref (q (d3 + 1)), .int y744, .int y745])) : Option (Nat × va_E)) := hO743
              replace hO746 : u736[d3 + 1]? = (some (q (d3 + 1), .inr (2, [.ref (q (d3 + 2)), .int y747, .int y748])) : Option (Nat × va_E)) := hO746
              replace hA750 : u736[d3 + 2]? = (some (q (d3 + 2), .inl (g 0, (108 : Int32).toNatClampNeg, .inl f749)) : Option (Nat × va_E)) := hA750
              obtain ⟨p756, e757⟩ : ∃ z, z = (F_NH_keepDecimal x5 y681 y682 y684 y685 f686 t9_0 t9_1 t10_0 t11_0 t11_1 t12_0 t12_1 t13_0) := ⟨_, rfl⟩
              have c758 : ¬ p756.1 = (0 : Int32) := fun z => hc754 (((congrArg (fun z => z.1) (hE751.trans e757.symm)) : cx752 = _).trans z)
              have e759 : y739 = p756.2.1 := congrArg (fun z => z.2.1) (hE751.trans e757.symm)
              have e760 : y740 = p756.2.2.1 := congrArg (fun z => z.2.2.1) (hE751.trans e757.symm)
              have e761 : f741 = p756.2.2.2.1 := congrArg (fun z => z.2.2.2.1) (hE751.trans e757.symm)
              have e762 : y744 = p756.2.2.2.2.1 := congrArg (fun z => z.2.2.2.2.1) (hE751.trans e757.symm)
              have e763 : y745 = p756.2.2.2.2.2.1 := congrArg (fun z => z.2.2.2.2.2.1) (hE751.trans e757.symm)
              have e764 : y747 = p756.2.2.2.2.2.2.1 := congrArg (fun z => z.2.2.2.2.2.2.1) (hE751.trans e757.symm)
              have e765 : y748 = p756.2.2.2.2.2.2.2.1 := congrArg (fun z => z.2.2.2.2.2.2.2.1) (hE751.trans e757.symm)
              have e766 : f749 = p756.2.2.2.2.2.2.2.2 := congrArg (fun z => z.2.2.2.2.2.2.2.2) (hE751.trans e757.symm)
              replace hO680 := (hu755 _ (by have z0 := yd3; simp only [List.mem_cons, List.not_mem_nil, or_false, not_or]; omega)).trans hO680
              replace hO683 := (hu755 _ (by have z0 := yd3; simp only [List.mem_cons, List.not_mem_nil, or_false, not_or]; omega)).trans hO683
              replace hA687 := (hu755 _ (by have z0 := yd3; simp only [List.mem_cons, List.not_mem_nil, or_false, not_or]; omega)).trans hA687
              replace hT3 := (hu755 _ (by have z0 := yd3; simp only [List.mem_cons, List.not_mem_nil, or_false, not_or]; omega)).trans hT3
              replace hT4 := (hu755 _ (by have z0 := yd3; simp only [List.mem_cons, List.not_mem_nil, or_false, not_or]; omega)).trans hT4
              replace hO688 := (hu755 _ (by have z0 := yd3; simp only [List.mem_cons, List.not_mem_nil, or_false, not_or]; omega)).trans hO688
              replace hA692 := (hu755 _ (by have z0 := yd3; simp only [List.mem_cons, List.not_mem_nil, or_false, not_or]; omega)).trans hA692
              replace hF := q_uc hF hu755 (by simp)
              have hR767 := (show F_NH_decimal_abt_c139_11 x2 x3 x4 x5 t0_0 t0_1 t1_0 t1_1 t2_0 t3_0 t3_1 t4_0 t5_0 t5_1 t6_0 t7_0 t7_1 t8_0 t9_0 t9_1 t10_0 t11_0 t11_1 t12_0 t12_1 t13_0 lx58 p710 y681 y682 y684 y685 f686 y689 y690 f691 p756 = (F_NH_decimal_abt x2 x3 x4 x5 t0_0 t0_1 t1_0 t1_1 t2_0 t3_0 t3_1 t4_0 t5_0 t5_1 t6_0 t7_0 t7_1 t8_0 t9_0 t9_1 t10_0 t11_0 t11_1 t12_0 t12_1 t13_0) from Eq.trans (by have c732x := c732; rw [e712] at c732x; rw [e757, e720, e719, e718, e717, e716, e715, e714, e713, F_NH_decimal_abt_c78_10.eq_1, if_pos c732x]) hR721)
              have hS768 := (show True ∧ S_NH_decimal_abt_c139_11 x2 x3 x4 x5 t0_0 t0_1 t1_0 t1_1 t2_0 t3_0 t3_1 t4_0 t5_0 t5_1 t6_0 t7_0 t7_1 t8_0 t9_0 t9_1 t10_0 t11_0 t11_1 t12_0 t12_1 t13_0 lx58 p710 y681 y682 y684 y685 f686 y689 y690 f691 p756 from (by rw [e757, e720, e719, e718, e717, e716, e715, e714, e713]; have h := hS722; rw [S_NH_decimal_abt_c78_10.eq_1] at h; have c732x := c732; rw [e712] at c732x; rw [if_pos c732x] at h; replace h := q_s2 h; with_reducible exact h))
              exact q_outT hno C0 V (⟨p756.1, (he753.trans (congrArg qE ((congrArg (fun z => z.1) (hE751.trans e757.symm)) : cx752 = _))), c758, hI, hF, y681, y682, y684, y685, f686, t3_0, t3_1, t4_0, y689, y690, f691, y739, y740, f741, y744, y745, y747, y748, f749, hO680, hO683, hA687, hT3, hT4, hO688, hA692, hO738, hA742, hO743, hO746, hA750, (show (p756.1, y681, y682, y684, y685, f686, t3_0, t3_1, t4_0, y689, y690, f691, y739, y740, f741, y744, y745, y747, y748, f749) = (F_NH_decimal_abt x2 x3 x4 x5 t0_0 t0_1 t1_0 t1_1 t2_0 t3_0 t3_1 t4_0 t5_0 t5_1 t6_0 t7_0 t7_1 t8_0 t9_0 t9_1 t10_0 t11_0 t11_1 t12_0 t12_1 t13_0) from Eq.trans (by rw [e766, e765, e764, e763, e762, e761, e760, e759, F_NH_decimal_abt_c139_11.eq_1, if_neg c758]) hR767)⟩) hce hcv hcl (Nat.le_of_ble_eq_true rfl) (Nat.le_of_ble_eq_true rfl)
            ·
              obtain ⟨hI, hZ9⟩ := hp737
              obtain ⟨hu810, hZ9⟩ := hZ9
              obtain ⟨y773, hZ9⟩ := hZ9
              obtain ⟨y774, hZ9⟩ := hZ9
              obtain ⟨f775, hZ9⟩ := hZ9
              obtain ⟨y778, hZ9⟩ := hZ9
              obtain ⟨y779, hZ9⟩ := hZ9
              obtain ⟨y781, hZ9⟩ := hZ9
              obtain ⟨y782, hZ9⟩ := hZ9
              obtain ⟨f783, hZ9⟩ := hZ9
              obtain ⟨hO772, hZ9⟩ := hZ9
              obtain ⟨hA776, hZ9⟩ := hZ9
              obtain ⟨hO777, hZ9⟩ := hZ9
              obtain ⟨hO780, hZ9⟩ := hZ9
              obtain ⟨hA784, hZ9⟩ := hZ9
              obtain ⟨b785, hZ9⟩ := hZ9
              obtain ⟨b786, hZ9⟩ := hZ9
              obtain ⟨b787, hZ9⟩ := hZ9
              obtain ⟨b788, hZ9⟩ := hZ9
              obtain ⟨b789, hZ9⟩ := hZ9
              obtain ⟨b790, hZ9⟩ := hZ9
              obtain ⟨b791, hZ9⟩ := hZ9
              obtain ⟨b792, hZ9⟩ := hZ9
              obtain ⟨b793, hZ9⟩ := hZ9
              obtain ⟨b794, hZ9⟩ := hZ9
              obtain ⟨b795, hZ9⟩ := hZ9
              obtain ⟨b796, hZ9⟩ := hZ9
              obtain ⟨b797, hZ9⟩ := hZ9
              obtain ⟨b798, hZ9⟩ := hZ9
              obtain ⟨b799, hZ9⟩ := hZ9
              obtain ⟨b800, hZ9⟩ := hZ9
              obtain ⟨b801, hZ9⟩ := hZ9
              obtain ⟨b802, hZ9⟩ := hZ9
              obtain ⟨b803, hZ9⟩ := hZ9
              obtain ⟨b804, hZ9⟩ := hZ9
              obtain ⟨b805, hZ9⟩ := hZ9
              obtain ⟨b806, hZ9⟩ := hZ9
              obtain ⟨b807, hZ9⟩ := hZ9
              obtain ⟨b808, hE809⟩ := hZ9
              replace hO772 : u736[20]? = (some (q 20, .inr (2, [.ref (q 21), .int y773, .int y774])) : Option (Nat × va_E)) := hO772
              replace hA776 : u736[21]? = (some (q 21, .inl (g 0, (220 : Int32).toNatClampNeg, .inl f775)) : Option (Nat × va_E)) := hA776
              replace hO777 : u736[d3]? = (some (q d3, .inr (3, [.ref (q (d3 + 1)), .int y778, .int y779])) : Option (Nat × va_E)) := hO777
              replace hO780 : u736[d3 + 1]? = (some (q (d3 + 1), .inr (2, [.ref (q (d3 + 2)), .int y781, .int y782])) : Option (Nat × va_E)) := hO780
              replace hA784 : u736[d3 + 2]? = (some (q (d3 + 2), .inl (g 0, (108 : Int32).toNatClampNeg, .inl f783)) : Option (Nat × va_E)) := hA784
              obtain ⟨p756, e757⟩ : ∃ z, z = (F_NH_keepDecimal x5 y681 y682 y684 y685 f686 t9_0 t9_1 t10_0 t11_0 t11_1 t12_0 t12_1 t13_0) := ⟨_, rfl⟩
              have c758 : p756.1 = (0 : Int32) := ((congrArg (fun z => z.1) (hE809.trans e757.symm)) : (0 : Int32) = _).symm
              have e812 : y773 = p756.2.1 := congrArg (fun z => z.2.1) (hE809.trans e757.symm)
              have e813 : y774 = p756.2.2.1 := congrArg (fun z => z.2.2.1) (hE809.trans e757.symm)
              have e814 : f775 = p756.2.2.2.1 := congrArg (fun z => z.2.2.2.1) (hE809.trans e757.symm)
              have e815 : y778 = p756.2.2.2.2.1 := congrArg (fun z => z.2.2.2.2.1) (hE809.trans e757.symm)
              have e816 : y779 = p756.2.2.2.2.2.1 := congrArg (fun z => z.2.2.2.2.2.1) (hE809.trans e757.symm)
              have e817 : y781 = p756.2.2.2.2.2.2.1 := congrArg (fun z => z.2.2.2.2.2.2.1) (hE809.trans e757.symm)
              have e818 : y782 = p756.2.2.2.2.2.2.2.1 := congrArg (fun z => z.2.2.2.2.2.2.2.1) (hE809.trans e757.symm)
              have e819 : f783 = p756.2.2.2.2.2.2.2.2 := congrArg (fun z => z.2.2.2.2.2.2.2.2) (hE809.trans e757.symm)
              replace b785 : q_F (0 ≤ y773.toInt) := b785
              replace b786 : q_F (y773.toInt ≤ 220) := b786
              replace b787 : q_F (0 ≤ y774.toInt) := b787
              replace b788 : q_F (y774.toInt ≤ 1) := b788
              replace b789 : q_F (0 ≤ y778.toInt + 10000) := b789
              replace b790 : q_F (y778.toInt ≤ 10000) := b790
              replace b791 : q_F (1 ≤ y779.toInt) := b791
              replace b792 : q_F (y779.toInt ≤ 1000) := b792
              replace b793 : q_F (0 ≤ y781.toInt) := b793
              replace b794 : q_F (y781.toInt ≤ 108) := b794
              replace b795 : q_F (0 ≤ y782.toInt) := b795
              replace b796 : q_F (y782.toInt ≤ 1) := b796
              replace b797 : q_F (x5.toInt ≤ y773.toInt + 9) := b797
              replace b798 : q_F (y773.toInt ≤ x5.toInt + 220) := b798
              replace b799 : q_F (x5.toInt ≤ y774.toInt + 9) := b799
              replace b800 : q_F (y774.toInt ≤ x5.toInt + 1) := b800
              replace b801 : q_F (x5.toInt ≤ y778.toInt + 10009) := b801
              replace b802 : q_F (y778.toInt ≤ x5.toInt + 10000) := b802
              replace b803 : q_F (x5.toInt ≤ y779.toInt + 8) := b803
              replace b804 : q_F (y779.toInt ≤ x5.toInt + 1000) := b804
              replace b805 : q_F (x5.toInt ≤ y781.toInt + 9) := b805
              replace b806 : q_F (y781.toInt ≤ x5.toInt + 108) := b806
              replace b807 : q_F (x5.toInt ≤ y782.toInt + 9) := b807
              replace b808 : q_F (y782.toInt ≤ x5.toInt + 1) := b808
              replace hO680 := (hu810 _ (by have z0 := yd3; simp only [List.mem_cons, List.not_mem_nil, or_false, not_or]; omega)).trans hO680
              replace hO683 := (hu810 _ (by have z0 := yd3; simp only [List.mem_cons, List.not_mem_nil, or_false, not_or]; omega)).trans hO683
              replace hA687 := (hu810 _ (by have z0 := yd3; simp only [List.mem_cons, List.not_mem_nil, or_false, not_or]; omega)).trans hA687
              replace hT3 := (hu810 _ (by have z0 := yd3; simp only [List.mem_cons, List.not_mem_nil, or_false, not_or]; omega)).trans hT3
              replace hT4 := (hu810 _ (by have z0 := yd3; simp only [List.mem_cons, List.not_mem_nil, or_false, not_or]; omega)).trans hT4
              replace hO688 := (hu810 _ (by have z0 := yd3; simp only [List.mem_cons, List.not_mem_nil, or_false, not_or]; omega)).trans hO688
              replace hA692 := (hu810 _ (by have z0 := yd3; simp only [List.mem_cons, List.not_mem_nil, or_false, not_or]; omega)).trans hA692
              replace hF := q_uc hF hu810 (by simp)
              have hR767 := (show F_NH_decimal_abt_c139_11 x2 x3 x4 x5 t0_0 t0_1 t1_0 t1_1 t2_0 t3_0 t3_1 t4_0 t5_0 t5_1 t6_0 t7_0 t7_1 t8_0 t9_0 t9_1 t10_0 t11_0 t11_1 t12_0 t12_1 t13_0 lx58 p710 y681 y682 y684 y685 f686 y689 y690 f691 p756 = (F_NH_decimal_abt x2 x3 x4 x5 t0_0 t0_1 t1_0 t1_1 t2_0 t3_0 t3_1 t4_0 t5_0 t5_1 t6_0 t7_0 t7_1 t8_0 t9_0 t9_1 t10_0 t11_0 t11_1 t12_0 t12_1 t13_0) from Eq.trans (by have c732x := c732; rw [e712] at c732x; rw [e757, e720, e719, e718, e717, e716, e715, e714, e713, F_NH_decimal_abt_c78_10.eq_1, if_pos c732x]) hR721)
              have hS768 := (show True ∧ S_NH_decimal_abt_c139_11 x2 x3 x4 x5 t0_0 t0_1 t1_0 t1_1 t2_0 t3_0 t3_1 t4_0 t5_0 t5_1 t6_0 t7_0 t7_1 t8_0 t9_0 t9_1 t10_0 t11_0 t11_1 t12_0 t12_1 t13_0 lx58 p710 y681 y682 y684 y685 f686 y689 y690 f691 p756 from (by rw [e757, e720, e719, e718, e717, e716, e715, e714, e713]; have h := hS722; rw [S_NH_decimal_abt_c78_10.eq_1] at h; have c732x := c732; rw [e712] at c732x; rw [if_pos c732x] at h; replace h := q_s2 h; with_reducible exact h))
              exact q_retX (q_retv C0 V (⟨hI, hF, y681, y682, y684, y685, f686, t3_0, t3_1, t4_0, y689, y690, f691, y773, y774, f775, y778, y779, y781, y782, f783, hO680, hO683, hA687, hT3, hT4, hO688, hA692, hO772, hA776, hO777, hO780, hA784, (show 0 ≤ y681.toInt + 20000 from (by have t1 : -10000 ≤ t11_0.toInt ∧ t11_0.toInt ≤ 10000 := btt11_0; have t2 : t11_0.toInt ≤ y681.toInt := b704; omega)), (show y681.toInt ≤ 20000 from (by first | with_reducible exact q_fe b695 | (have t1 : y681.toInt ≤ 10000 := b695; omega))), (show 0 ≤ y682.toInt from (by have t1 : 0 ≤ t0_1.toInt ∧ t0_1.toInt ≤ 1 := btt0_1; have t2 : t0_1.toInt ≤ y682.toInt := b706; omega)), (show y682.toInt ≤ 1 from (by have t1 : 0 ≤ t0_1.toInt ∧ t0_1.toInt ≤ 1 := btt0_1; have t2 : y682.toInt ≤ t0_1.toInt := b707; omega)), (show 0 ≤ y684.toInt from (by first | with_reducible exact q_fe b696 | (have t1 : 0 ≤ y684.toInt := b696; omega))), (show y684.toInt ≤ 220 from (by first | with_reducible exact q_fe b697 | (have t1 : y684.toInt ≤ 220 := b697; omega))), (show 0 ≤ y685.toInt from (by first | with_reducible exact q_fe b698 | (have t1 : 0 ≤ y685.toInt := b698; omega))), (show y685.toInt ≤ 1 from (by first | with_reducible exact q_fe b699 | (have t1 : y685.toInt ≤ 1 := b699; omega))), (show 0 ≤ t3_0.toInt from (by first | with_reducible exact (q_fe btt3_0).2 | with_reducible exact (q_fe btt3_0).1 | (have t1 : 0 ≤ t3_0.toInt ∧ t3_0.toInt ≤ 220 := btt3_0; omega))), (show t3_0.toInt ≤ 220 from (by first | with_reducible exact (q_fe btt3_0).2 | with_reducible exact (q_fe btt3_0).1 | (have t1 : 0 ≤ t3_0.toInt ∧ t3_0.toInt ≤ 220 := btt3_0; omega))), (show 0 ≤ t3_1.toInt from (by first | with_reducible exact (q_fe btt3_1).2 | with_reducible exact (q_fe btt3_1).1 | (have t1 : 0 ≤ t3_1.toInt ∧ t3_1.toInt ≤ 1 := btt3_1; omega))), (show t3_1.toInt ≤ 1 from (by first | with_reducible exact (q_fe btt3_1).2 | with_reducible exact (q_fe btt3_1).1 | (have t1 : 0 ≤ t3_1.toInt ∧ t3_1.toInt ≤ 1 := btt3_1; omega))), (show 0 ≤ y689.toInt from (by first | with_reducible exact q_fe b700 | (have t1 : 0 ≤ y689.toInt := b700; omega))), (show y689.toInt ≤ 220 from (by first | with_reducible exact q_fe b701 | (have t1 : y689.toInt ≤ 220 := b701; omega))), (show 0 ≤ y690.toInt from (by first | with_reducible exact q_fe b702 | (have t1 : 0 ≤ y690.toInt := b702; omega))), (show y690.toInt ≤ 2 from (by first | with_reducible exact q_fe b703 | (have t1 : y690.toInt ≤ 1 := b703; omega))), (show 0 ≤ y773.toInt from (by first | with_reducible exact q_fe b785 | (have t1 : 0 ≤ y773.toInt := b785; omega))), (show y773.toInt ≤ 220 from (by first | with_reducible exact q_fe b786 | (have t1 : y773.toInt ≤ 220 := b786; omega))), (show 0 ≤ y774.toInt from (by first | with_reducible exact q_fe b787 | (have t1 : 0 ≤ y774.toInt := b787; omega))), (show y774.toInt ≤ 1 from (by first | with_reducible exact q_fe b788 | (have t1 : y774.toInt ≤ 1 := b788; omega))), (show 0 ≤ y778.toInt + 10000 from (by first | with_reducible exact q_fe b789 | (have t1 : 0 ≤ y778.toInt + 10000 := b789; omega))), (show y778.toInt ≤ 10000 from (by first | with_reducible exact q_fe b790 | (have t1 : y778.toInt ≤ 10000 := b790; omega))), (show 1 ≤ y779.toInt from (by first | with_reducible exact q_fe b791 | (have t1 : 1 ≤ y779.toInt := b791; omega))), (show y779.toInt ≤ 1000 from (by first | with_reducible exact q_fe b792 | (have t1 : y779.toInt ≤ 1000 := b792; omega))), (show 0 ≤ y781.toInt from (by first | with_reducible exact q_fe b793 | (have t1 : 0 ≤ y781.toInt := b793; omega))), (show y781.toInt ≤ 108 from (by first | with_reducible exact q_fe b794 | (have t1 : y781.toInt ≤ 108 := b794; omega))), (show 0 ≤ y782.toInt from (by first | with_reducible exact q_fe b795 | (have t1 : 0 ≤ y782.toInt := b795; omega))), (show y782.toInt ≤ 1 from (by first | with_reducible exact q_fe b796 | (have t1 : y782.toInt ≤ 1 := b796; omega))), (show x3.toInt ≤ y681.toInt + 20009 from (by have t1 : -10000 ≤ t11_0.toInt ∧ t11_0.toInt ≤ 10000 := btt11_0; have t2 : x3.toInt ≤ 9 := ob93; have t3 : t11_0.toInt ≤ y681.toInt := b704; omega)), (show y681.toInt ≤ x3.toInt + 20000 from (by have t1 : 0 ≤ x3.toInt := ob92; have t2 : y681.toInt ≤ 10000 := b695; omega)), (show x4.toInt ≤ y681.toInt + 20009 from (by have t1 : -10000 ≤ t11_0.toInt ∧ t11_0.toInt ≤ 10000 := btt11_0; have t2 : x4.toInt ≤ 9 := ob98; have t3 : t11_0.toInt ≤ y681.toInt := b704; omega)), (show y681.toInt ≤ x4.toInt + 20000 from (by have t1 : 0 ≤ x4.toInt := ob97; have t2 : y681.toInt ≤ 10000 := b695; omega)), (show t11_0.toInt ≤ y681.toInt + 10000 from (by first | with_reducible exact q_fe b704 | (have t1 : t11_0.toInt ≤ y681.toInt := b704; omega))), (show y681.toInt ≤ t11_0.toInt + 20000 from (by have t1 : -10000 ≤ t11_0.toInt ∧ t11_0.toInt ≤ 10000 := btt11_0; have t2 : y681.toInt ≤ 10000 := b695; omega)), (show x3.toInt ≤ y682.toInt + 9 from (by have t1 : 0 ≤ t0_1.toInt ∧ t0_1.toInt ≤ 1 := btt0_1; have t2 : x3.toInt ≤ 9 := ob93; have t3 : t0_1.toInt ≤ y682.toInt := b706; omega)), (show y682.toInt ≤ x3.toInt + 1 from (by have t1 : 0 ≤ t0_1.toInt ∧ t0_1.toInt ≤ 1 := btt0_1; have t2 : 0 ≤ x3.toInt := ob92; have t3 : y682.toInt ≤ t0_1.toInt := b707; omega)), (show x4.toInt ≤ y682.toInt + 9 from (by have t1 : 0 ≤ t0_1.toInt ∧ t0_1.toInt ≤ 1 := btt0_1; have t2 : x4.toInt ≤ 9 := ob98; have t3 : t0_1.toInt ≤ y682.toInt := b706; omega)), (show y682.toInt ≤ x4.toInt + 1 from (by have t1 : 0 ≤ t0_1.toInt ∧ t0_1.toInt ≤ 1 := btt0_1; have t2 : 0 ≤ x4.toInt := ob97; have t3 : y682.toInt ≤ t0_1.toInt := b707; omega)), (show t0_1.toInt ≤ y682.toInt from (by first | with_reducible exact q_fe b706 | (have t1 : t0_1.toInt ≤ y682.toInt := b706; omega))), (show y682.toInt ≤ t0_1.toInt from (by first | with_reducible exact q_fe b707 | (have t1 : y682.toInt ≤ t0_1.toInt := b707; omega))), (show x3.toInt ≤ y684.toInt + 9 from (by have t1 : x3.toInt ≤ 9 := ob93; have t2 : 0 ≤ y684.toInt := b696; omega)), (show y684.toInt ≤ x3.toInt + 220 from (by have t1 : 0 ≤ x3.toInt := ob92; have t2 : y684.toInt ≤ 220 := b697; omega)), (show x4.toInt ≤ y684.toInt + 9 from (by have t1 : x4.toInt ≤ 9 := ob98; have t2 : 0 ≤ y684.toInt := b696; omega)), (show y684.toInt ≤ x4.toInt + 220 from (by have t1 : 0 ≤ x4.toInt := ob97; have t2 : y684.toInt ≤ 220 := b697; omega)), (show x3.toInt ≤ y685.toInt + 9 from (by have t1 : x3.toInt ≤ 9 := ob93; have t2 : 0 ≤ y685.toInt := b698; omega)), (show y685.toInt ≤ x3.toInt + 1 from (by have t1 : 0 ≤ x3.toInt := ob92; have t2 : y685.toInt ≤ 1 := b699; omega)), (show x4.toInt ≤ y685.toInt + 9 from (by have t1 : x4.toInt ≤ 9 := ob98; have t2 : 0 ≤ y685.toInt := b698; omega)), (show y685.toInt ≤ x4.toInt + 1 from (by have t1 : 0 ≤ x4.toInt := ob97; have t2 : y685.toInt ≤ 1 := b699; omega)), (show x3.toInt ≤ t3_0.toInt + 9 from (by have t1 : 0 ≤ t3_0.toInt ∧ t3_0.toInt ≤ 220 := btt3_0; have t2 : x3.toInt ≤ 9 := ob93; omega)), (show t3_0.toInt ≤ x3.toInt + 220 from (by have t1 : 0 ≤ t3_0.toInt ∧ t3_0.toInt ≤ 220 := btt3_0; have t2 : 0 ≤ x3.toInt := ob92; omega)), (show x4.toInt ≤ t3_0.toInt + 9 from (by have t1 : 0 ≤ t3_0.toInt ∧ t3_0.toInt ≤ 220 := btt3_0; have t2 : x4.toInt ≤ 9 := ob98; omega)), (show t3_0.toInt ≤ x4.toInt + 220 from (by have t1 : 0 ≤ t3_0.toInt ∧ t3_0.toInt ≤ 220 := btt3_0; have t2 : 0 ≤ x4.toInt := ob97; omega)), (show x3.toInt ≤ t3_1.toInt + 9 from (by have t1 : 0 ≤ t3_1.toInt ∧ t3_1.toInt ≤ 1 := btt3_1; have t2 : x3.toInt ≤ 9 := ob93; omega)), (show t3_1.toInt ≤ x3.toInt + 1 from (by have t1 : 0 ≤ t3_1.toInt ∧ t3_1.toInt ≤ 1 := btt3_1; have t2 : 0 ≤ x3.toInt := ob92; omega)), (show x4.toInt ≤ t3_1.toInt + 9 from (by have t1 : 0 ≤ t3_1.toInt ∧ t3_1.toInt ≤ 1 := btt3_1; have t2 : x4.toInt ≤ 9 := ob98; omega)), (show t3_1.toInt ≤ x4.toInt + 1 from (by have t1 : 0 ≤ t3_1.toInt ∧ t3_1.toInt ≤ 1 := btt3_1; have t2 : 0 ≤ x4.toInt := ob97; omega)), (show t3_1.toInt ≤ t3_1.toInt from (by omega)), (show x3.toInt ≤ y689.toInt + 9 from (by have t1 : x3.toInt ≤ 9 := ob93; have t2 : 0 ≤ y689.toInt := b700; omega)), (show y689.toInt ≤ x3.toInt + 220 from (by have t1 : 0 ≤ x3.toInt := ob92; have t2 : y689.toInt ≤ 220 := b701; omega)), (show x4.toInt ≤ y689.toInt + 9 from (by have t1 : x4.toInt ≤ 9 := ob98; have t2 : 0 ≤ y689.toInt := b700; omega)), (show y689.toInt ≤ x4.toInt + 220 from (by have t1 : 0 ≤ x4.toInt := ob97; have t2 : y689.toInt ≤ 220 := b701; omega)), (show x3.toInt ≤ y690.toInt + 9 from (by have t1 : x3.toInt ≤ 9 := ob93; have t2 : 0 ≤ y690.toInt := b702; omega)), (show x4.toInt ≤ y690.toInt + 9 from (by have t1 : x4.toInt ≤ 9 := ob98; have t2 : 0 ≤ y690.toInt := b702; omega)), (show y690.toInt ≤ t12_1.toInt + 1 from (by have t1 : 0 ≤ t12_1.toInt ∧ t12_1.toInt ≤ 1 := btt12_1; have t2 : y690.toInt ≤ 1 := b703; omega)), (show x3.toInt ≤ y773.toInt + 9 from (by have t1 : x3.toInt ≤ 9 := ob93; have t2 : 0 ≤ y773.toInt := b785; omega)), (show y773.toInt ≤ x3.toInt + 220 from (by have t1 : 0 ≤ x3.toInt := ob92; have t2 : y773.toInt ≤ 220 := b786; omega)), (show x4.toInt ≤ y773.toInt + 9 from (by have t1 : x4.toInt ≤ 9 := ob98; have t2 : 0 ≤ y773.toInt := b785; omega)), (show y773.toInt ≤ x4.toInt + 220 from (by have t1 : 0 ≤ x4.toInt := ob97; have t2 : y773.toInt ≤ 220 := b786; omega)), (show x5.toInt ≤ y773.toInt + 9 from (by first | with_reducible exact q_fe b797 | (have t1 : x5.toInt ≤ y773.toInt + 9 := b797; omega))), (show y773.toInt ≤ x5.toInt + 220 from (by first | with_reducible exact q_fe b798 | (have t1 : y773.toInt ≤ x5.toInt + 220 := b798; omega))), (show x3.toInt ≤ y774.toInt + 9 from (by have t1 : x3.toInt ≤ 9 := ob93; have t2 : 0 ≤ y774.toInt := b787; omega)), (show y774.toInt ≤ x3.toInt + 1 from (by have t1 : 0 ≤ x3.toInt := ob92; have t2 : y774.toInt ≤ 1 := b788; omega)), (show x4.toInt ≤ y774.toInt + 9 from (by have t1 : x4.toInt ≤ 9 := ob98; have t2 : 0 ≤ y774.toInt := b787; omega)), (show y774.toInt ≤ x4.toInt + 1 from (by have t1 : 0 ≤ x4.toInt := ob97; have t2 : y774.toInt ≤ 1 := b788; omega)), (show x5.toInt ≤ y774.toInt + 9 from (by first | with_reducible exact q_fe b799 | (have t1 : x5.toInt ≤ y774.toInt + 9 := b799; omega))), (show y774.toInt ≤ x5.toInt + 1 from (by first | with_reducible exact q_fe b800 | (have t1 : y774.toInt ≤ x5.toInt + 1 := b800; omega))), (show x3.toInt ≤ y778.toInt + 10009 from (by have t1 : x3.toInt ≤ 9 := ob93; have t2 : 0 ≤ y778.toInt + 10000 := b789; omega)), (show y778.toInt ≤ x3.toInt + 10000 from (by have t1 : 0 ≤ x3.toInt := ob92; have t2 : y778.toInt ≤ 10000 := b790; omega)), (show x4.toInt ≤ y778.toInt + 10009 from (by have t1 : x4.toInt ≤ 9 := ob98; have t2 : 0 ≤ y778.toInt + 10000 := b789; omega)), (show y778.toInt ≤ x4.toInt + 10000 from (by have t1 : 0 ≤ x4.toInt := ob97; have t2 : y778.toInt ≤ 10000 := b790; omega)), (show x5.toInt ≤ y778.toInt + 10009 from (by first | with_reducible exact q_fe b801 | (have t1 : x5.toInt ≤ y778.toInt + 10009 := b801; omega))), (show y778.toInt ≤ x5.toInt + 10000 from (by first | with_reducible exact q_fe b802 | (have t1 : y778.toInt ≤ x5.toInt + 10000 := b802; omega))), (show x3.toInt ≤ y779.toInt + 8 from (by have t1 : x3.toInt ≤ 9 := ob93; have t2 : 1 ≤ y779.toInt := b791; omega)), (show y779.toInt ≤ x3.toInt + 1000 from (by have t1 : 0 ≤ x3.toInt := ob92; have t2 : y779.toInt ≤ 1000 := b792; omega)), (show x4.toInt ≤ y779.toInt + 8 from (by have t1 : x4.toInt ≤ 9 := ob98; have t2 : 1 ≤ y779.toInt := b791; omega)), (show y779.toInt ≤ x4.toInt + 1000 from (by have t1 : 0 ≤ x4.toInt := ob97; have t2 : y779.toInt ≤ 1000 := b792; omega)), (show x5.toInt ≤ y779.toInt + 8 from (by first | with_reducible exact q_fe b803 | (have t1 : x5.toInt ≤ y779.toInt + 8 := b803; omega))), (show y779.toInt ≤ x5.toInt + 1000 from (by first | with_reducible exact q_fe b804 | (have t1 : y779.toInt ≤ x5.toInt + 1000 := b804; omega))), (show x3.toInt ≤ y781.toInt + 9 from (by have t1 : x3.toInt ≤ 9 := ob93; have t2 : 0 ≤ y781.toInt := b793; omega)), (show y781.toInt ≤ x3.toInt + 108 from (by have t1 : 0 ≤ x3.toInt := ob92; have t2 : y781.toInt ≤ 108 := b794; omega)), (show x4.toInt ≤ y781.toInt + 9 from (by have t1 : x4.toInt ≤ 9 := ob98; have t2 : 0 ≤ y781.toInt := b793; omega)), (show y781.toInt ≤ x4.toInt + 108 from (by have t1 : 0 ≤ x4.toInt := ob97; have t2 : y781.toInt ≤ 108 := b794; omega)), (show x5.toInt ≤ y781.toInt + 9 from (by first | with_reducible exact q_fe b805 | (have t1 : x5.toInt ≤ y781.toInt + 9 := b805; omega))), (show y781.toInt ≤ x5.toInt + 108 from (by first | with_reducible exact q_fe b806 | (have t1 : y781.toInt ≤ x5.toInt + 108 := b806; omega))), (show x3.toInt ≤ y782.toInt + 9 from (by have t1 : x3.toInt ≤ 9 := ob93; have t2 : 0 ≤ y782.toInt := b795; omega)), (show y782.toInt ≤ x3.toInt + 1 from (by have t1 : 0 ≤ x3.toInt := ob92; have t2 : y782.toInt ≤ 1 := b796; omega)), (show x4.toInt ≤ y782.toInt + 9 from (by have t1 : x4.toInt ≤ 9 := ob98; have t2 : 0 ≤ y782.toInt := b795; omega)), (show y782.toInt ≤ x4.toInt + 1 from (by have t1 : 0 ≤ x4.toInt := ob97; have t2 : y782.toInt ≤ 1 := b796; omega)), (show x5.toInt ≤ y782.toInt + 9 from (by first | with_reducible exact q_fe b807 | (have t1 : x5.toInt ≤ y782.toInt + 9 := b807; omega))), (show y782.toInt ≤ x5.toInt + 1 from (by first | with_reducible exact q_fe b808 | (have t1 : y782.toInt ≤ x5.toInt + 1 := b808; omega))), (show y690.toInt ≤ y681.toInt + 20001 from (by have t1 : -10000 ≤ t11_0.toInt ∧ t11_0.toInt ≤ 10000 := btt11_0; have t2 : y690.toInt ≤ 1 := b703; have t3 : t11_0.toInt ≤ y681.toInt := b704; omega)), (show y690.toInt ≤ y685.toInt + 1 from (by have t1 : 0 ≤ y685.toInt := b698; have t2 : y690.toInt ≤ 1 := b703; omega)), (show ((0 : Int32), y681, y682, y684, y685, f686, t3_0, t3_1, t4_0, y689, y690, f691, y773, y774, f775, y778, y779, y781, y782, f783) = (F_NH_decimal_abt x2 x3 x4 x5 t0_0 t0_1 t1_0 t1_1 t2_0 t3_0 t3_1 t4_0 t5_0 t5_1 t6_0 t7_0 t7_1 t8_0 t9_0 t9_1 t10_0 t11_0 t11_1 t12_0 t12_1 t13_0) from Eq.trans (by rw [e819, e818, e817, e816, e815, e814, e813, e812, F_NH_decimal_abt_c139_11.eq_1, if_pos c758]) hR767)⟩) d_1_11_142)
  ·
    intro J73
    refine q_join (X := Unit) (fun z H locs ls _ => q_Wd D g (va_A ws sz) s ws H locs ∧ lv_has ls 7 [(0, .ref (q 0)), (1, .int x2), (2, .int x3), (3, .int x4), (4, .int x5)] ∧ F_NH_decimal_abt_J35 x2 x3 x4 x5 t0_0 t0_1 t1_0 t1_1 t2_0 t3_0 t3_1 t4_0 t5_0 t5_1 t6_0 t7_0 t7_1 t8_0 t9_0 t9_1 t10_0 t11_0 t11_1 t12_0 t12_1 t13_0 = (F_NH_decimal_abt x2 x3 x4 x5 t0_0 t0_1 t1_0 t1_1 t2_0 t3_0 t3_1 t4_0 t5_0 t5_1 t6_0 t7_0 t7_1 t8_0 t9_0 t9_1 t10_0 t11_0 t11_1 t12_0 t12_1 t13_0) ∧ True ∧ S_NH_decimal_abt_J35 x2 x3 x4 x5 t0_0 t0_1 t1_0 t1_1 t2_0 t3_0 t3_1 t4_0 t5_0 t5_1 t6_0 t7_0 t7_1 t8_0 t9_0 t9_1 t10_0 t11_0 t11_1 t12_0 t12_1 t13_0) (fun z => []) 35 0 0 ?_ ?_
    ·
      rintro _ H locs ls _ ⟨V, hl, hR835, hS836⟩
      replace hl : lv_has ls 7 [(0, .ref (q 0)), (1, .int x2), (2, .int x3), (3, .int x4), (4, .int x5)] := hl
      refine lv_iconst (v := 0) hx hb d_1_11_35 (by decide) ?_
      exact J73 ((0 : Int32)) _ _ _ ws ⟨(show q_F (0 ≤ 0) from (show 0 ≤ 0 from by omega)), (show q_F (0 ≤ 1) from (show 0 ≤ 1 from by omega)), V, q_lw hl (q_lw1 0 rfl (q_lw1 1 rfl (q_lw1 2 rfl (q_lw1 3 rfl (q_lw1 4 rfl q_lw0))))), (show F_NH_decimal_abt_J36 x2 x3 x4 x5 t0_0 t0_1 t1_0 t1_1 t2_0 t3_0 t3_1 t4_0 t5_0 t5_1 t6_0 t7_0 t7_1 t8_0 t9_0 t9_1 t10_0 t11_0 t11_1 t12_0 t12_1 t13_0 0 = (F_NH_decimal_abt x2 x3 x4 x5 t0_0 t0_1 t1_0 t1_1 t2_0 t3_0 t3_1 t4_0 t5_0 t5_1 t6_0 t7_0 t7_1 t8_0 t9_0 t9_1 t10_0 t11_0 t11_1 t12_0 t12_1 t13_0) from Eq.trans (by rw [F_NH_decimal_abt_J35.eq_1]) hR835), (show True ∧ S_NH_decimal_abt_J36 x2 x3 x4 x5 t0_0 t0_1 t1_0 t1_1 t2_0 t3_0 t3_1 t4_0 t5_0 t5_1 t6_0 t7_0 t7_1 t8_0 t9_0 t9_1 t10_0 t11_0 t11_1 t12_0 t12_1 t13_0 0 from (by have h := hS836; rw [S_NH_decimal_abt_J35.eq_1] at h; with_reducible exact h))⟩
    ·
      intro J834
      refine lv_if_lt (tgt := 35) hx hb d_1_11_1 (by decide) (fun c840 => ?_) (fun c840 => ?_)
      ·
        exact J834 (()) _ _ _ ws ⟨V, q_lw hl (q_lw1 0 rfl (q_lw1 1 rfl (q_lw1 2 rfl (q_lw1 3 rfl (q_lw1 4 rfl q_lw0))))), (show F_NH_decimal_abt_J35 x2 x3 x4 x5 t0_0 t0_1 t1_0 t1_1 t2_0 t3_0 t3_1 t4_0 t5_0 t5_1 t6_0 t7_0 t7_1 t8_0 t9_0 t9_1 t10_0 t11_0 t11_1 t12_0 t12_1 t13_0 = (F_NH_decimal_abt x2 x3 x4 x5 t0_0 t0_1 t1_0 t1_1 t2_0 t3_0 t3_1 t4_0 t5_0 t5_1 t6_0 t7_0 t7_1 t8_0 t9_0 t9_1 t10_0 t11_0 t11_1 t12_0 t12_1 t13_0) from (by rw [F_NH_decimal_abt.eq_1, if_pos c840])), (show True ∧ S_NH_decimal_abt_J35 x2 x3 x4 x5 t0_0 t0_1 t1_0 t1_1 t2_0 t3_0 t3_1 t4_0 t5_0 t5_1 t6_0 t7_0 t7_1 t8_0 t9_0 t9_1 t10_0 t11_0 t11_1 t12_0 t12_1 t13_0 from (by have h := hS; rw [S_NH_decimal_abt.eq_1] at h; rw [if_pos c840] at h; with_reducible exact h))⟩
      ·
        refine lv_iload_n hx hb d_1_11_4 rfl (lv_at hl 1 rfl) ?_
        refine lv_iconst (v := 3) hx hb d_1_11_5 (by decide) ?_
        refine lv_icmp_gt (tgt := 35) hx hb d_1_11_6 (by decide) (fun c843 => ?_) (fun c843 => ?_)
        ·
          exact J834 (()) _ _ _ ws ⟨V, q_lw hl (q_lw1 0 rfl (q_lw1 1 rfl (q_lw1 2 rfl (q_lw1 3 rfl (q_lw1 4 rfl q_lw0))))), (show F_NH_decimal_abt_J35 x2 x3 x4 x5 t0_0 t0_1 t1_0 t1_1 t2_0 t3_0 t3_1 t4_0 t5_0 t5_1 t6_0 t7_0 t7_1 t8_0 t9_0 t9_1 t10_0 t11_0 t11_1 t12_0 t12_1 t13_0 = (F_NH_decimal_abt x2 x3 x4 x5 t0_0 t0_1 t1_0 t1_1 t2_0 t3_0 t3_1 t4_0 t5_0 t5_1 t6_0 t7_0 t7_1 t8_0 t9_0 t9_1 t10_0 t11_0 t11_1 t12_0 t12_1 t13_0) from (by rw [F_NH_decimal_abt.eq_1, if_neg c840, if_pos c843])), (show True ∧ S_NH_decimal_abt_J35 x2 x3 x4 x5 t0_0 t0_1 t1_0 t1_1 t2_0 t3_0 t3_1 t4_0 t5_0 t5_1 t6_0 t7_0 t7_1 t8_0 t9_0 t9_1 t10_0 t11_0 t11_1 t12_0 t12_1 t13_0 from (by have h := hS; rw [S_NH_decimal_abt.eq_1] at h; rw [if_neg c840] at h; rw [if_pos c843] at h; with_reducible exact h))⟩
        ·
          refine lv_iload_n hx hb d_1_11_9 rfl (lv_at hl 2 rfl) ?_
          refine q_goi V (q_runS (As := [.int x3]) (rest := []) (d := 1) (mc := 0) (ms := 0) C0 V rfl LS_NH_212 (X_NH_isRegister l D g q ws  x3 hI   _) rfl hl.1 rfl (Nat.le_of_ble_eq_true rfl) ⟨by decide, by decide⟩ ⟨Nat.le_of_ble_eq_true rfl, Nat.le_of_ble_eq_true rfl⟩ d_1_11_10) (fun a848 u846 H locs hp847 V => ?_)
          obtain ⟨rfl, b849, b850, hE851⟩ := hp847
          have e852 : a848 = (F_NH_isRegister x3) := hE851
          clear b849
          clear b850
          refine lv_if_eq (tgt := 35) hx hb d_1_11_13 (by decide) (fun c853 => ?_) (fun c853 => ?_)
          ·
            exact J834 (()) _ _ _ ws ⟨V, q_lw hl (q_lw1 0 rfl (q_lw1 1 rfl (q_lw1 2 rfl (q_lw1 3 rfl (q_lw1 4 rfl q_lw0))))), (show F_NH_decimal_abt_J35 x2 x3 x4 x5 t0_0 t0_1 t1_0 t1_1 t2_0 t3_0 t3_1 t4_0 t5_0 t5_1 t6_0 t7_0 t7_1 t8_0 t9_0 t9_1 t10_0 t11_0 t11_1 t12_0 t12_1 t13_0 = (F_NH_decimal_abt x2 x3 x4 x5 t0_0 t0_1 t1_0 t1_1 t2_0 t3_0 t3_1 t4_0 t5_0 t5_1 t6_0 t7_0 t7_1 t8_0 t9_0 t9_1 t10_0 t11_0 t11_1 t12_0 t12_1 t13_0) from (by have c853x := c853; rw [e852] at c853x; rw [F_NH_decimal_abt.eq_1, if_neg c840, if_neg c843, if_pos c853x])), (show True ∧ S_NH_decimal_abt_J35 x2 x3 x4 x5 t0_0 t0_1 t1_0 t1_1 t2_0 t3_0 t3_1 t4_0 t5_0 t5_1 t6_0 t7_0 t7_1 t8_0 t9_0 t9_1 t10_0 t11_0 t11_1 t12_0 t12_1 t13_0 from (by have h := hS; rw [S_NH_decimal_abt.eq_1] at h; rw [if_neg c840] at h; rw [if_neg c843] at h; have c853x := c853; rw [e852] at c853x; rw [if_pos c853x] at h; with_reducible exact h))⟩
          ·
            refine lv_iload_n hx hb d_1_11_16 rfl (lv_at hl 3 rfl) ?_
            refine q_goi V (q_runS (As := [.int x4]) (rest := []) (d := 1) (mc := 0) (ms := 0) C0 V rfl LS_NH_212 (X_NH_isRegister l D g q ws  x4 hI   _) rfl hl.1 rfl (Nat.le_of_ble_eq_true rfl) ⟨by decide, by decide⟩ ⟨Nat.le_of_ble_eq_true rfl, Nat.le_of_ble_eq_true rfl⟩ d_1_11_17) (fun a858 u856 H locs hp857 V => ?_)
            obtain ⟨rfl, b859, b860, hE861⟩ := hp857
            have e862 : a858 = (F_NH_isRegister x4) := hE861
            clear b859
            clear b860
            refine lv_if_eq (tgt := 35) hx hb d_1_11_20 (by decide) (fun c863 => ?_) (fun c863 => ?_)
            ·
              exact J834 (()) _ _ _ ws ⟨V, q_lw hl (q_lw1 0 rfl (q_lw1 1 rfl (q_lw1 2 rfl (q_lw1 3 rfl (q_lw1 4 rfl q_lw0))))), (show F_NH_decimal_abt_J35 x2 x3 x4 x5 t0_0 t0_1 t1_0 t1_1 t2_0 t3_0 t3_1 t4_0 t5_0 t5_1 t6_0 t7_0 t7_1 t8_0 t9_0 t9_1 t10_0 t11_0 t11_1 t12_0 t12_1 t13_0 = (F_NH_decimal_abt x2 x3 x4 x5 t0_0 t0_1 t1_0 t1_1 t2_0 t3_0 t3_1 t4_0 t5_0 t5_1 t6_0 t7_0 t7_1 t8_0 t9_0 t9_1 t10_0 t11_0 t11_1 t12_0 t12_1 t13_0) from (by have c853x := c853; rw [e852] at c853x; have c863x := c863; rw [e862] at c863x; rw [F_NH_decimal_abt.eq_1, if_neg c840, if_neg c843, if_neg c853x, if_pos c863x])), (show True ∧ S_NH_decimal_abt_J35 x2 x3 x4 x5 t0_0 t0_1 t1_0 t1_1 t2_0 t3_0 t3_1 t4_0 t5_0 t5_1 t6_0 t7_0 t7_1 t8_0 t9_0 t9_1 t10_0 t11_0 t11_1 t12_0 t12_1 t13_0 from (by have h := hS; rw [S_NH_decimal_abt.eq_1] at h; rw [if_neg c840] at h; rw [if_neg c843] at h; have c853x := c853; rw [e852] at c853x; rw [if_neg c853x] at h; have c863x := c863; rw [e862] at c863x; rw [if_pos c863x] at h; with_reducible exact h))⟩
            ·
              refine lv_iload hx hb d_1_11_23 (lv_at hl 4 rfl) ?_
              refine q_goi V (q_runS (As := [.int x5]) (rest := []) (d := 1) (mc := 0) (ms := 0) C0 V rfl LS_NH_212 (X_NH_isRegister l D g q ws  x5 hI   _) rfl hl.1 rfl (Nat.le_of_ble_eq_true rfl) ⟨by decide, by decide⟩ ⟨Nat.le_of_ble_eq_true rfl, Nat.le_of_ble_eq_true rfl⟩ d_1_11_25) (fun a868 u866 H locs hp867 V => ?_)
              obtain ⟨rfl, b869, b870, hE871⟩ := hp867
              have e872 : a868 = (F_NH_isRegister x5) := hE871
              clear b869
              clear b870
              refine lv_if_eq (tgt := 35) hx hb d_1_11_28 (by decide) (fun c873 => ?_) (fun c873 => ?_)
              ·
                exact J834 (()) _ _ _ ws ⟨V, q_lw hl (q_lw1 0 rfl (q_lw1 1 rfl (q_lw1 2 rfl (q_lw1 3 rfl (q_lw1 4 rfl q_lw0))))), (show F_NH_decimal_abt_J35 x2 x3 x4 x5 t0_0 t0_1 t1_0 t1_1 t2_0 t3_0 t3_1 t4_0 t5_0 t5_1 t6_0 t7_0 t7_1 t8_0 t9_0 t9_1 t10_0 t11_0 t11_1 t12_0 t12_1 t13_0 = (F_NH_decimal_abt x2 x3 x4 x5 t0_0 t0_1 t1_0 t1_1 t2_0 t3_0 t3_1 t4_0 t5_0 t5_1 t6_0 t7_0 t7_1 t8_0 t9_0 t9_1 t10_0 t11_0 t11_1 t12_0 t12_1 t13_0) from (by have c853x := c853; rw [e852] at c853x; have c863x := c863; rw [e862] at c863x; have c873x := c873; rw [e872] at c873x; rw [F_NH_decimal_abt.eq_1, if_neg c840, if_neg c843, if_neg c853x, if_neg c863x, if_pos c873x])), (show True ∧ S_NH_decimal_abt_J35 x2 x3 x4 x5 t0_0 t0_1 t1_0 t1_1 t2_0 t3_0 t3_1 t4_0 t5_0 t5_1 t6_0 t7_0 t7_1 t8_0 t9_0 t9_1 t10_0 t11_0 t11_1 t12_0 t12_1 t13_0 from (by have h := hS; rw [S_NH_decimal_abt.eq_1] at h; rw [if_neg c840] at h; rw [if_neg c843] at h; have c853x := c853; rw [e852] at c853x; rw [if_neg c853x] at h; have c863x := c863; rw [e862] at c863x; rw [if_neg c863x] at h; have c873x := c873; rw [e872] at c873x; rw [if_pos c873x] at h; with_reducible exact h))⟩
              ·
                refine lv_iconst (v := 1) hx hb d_1_11_31 (by decide) ?_
                refine lv_goto (tgt := 36) hx hb d_1_11_32 (by decide) ?_
                exact J73 ((1 : Int32)) _ _ _ ws ⟨(show q_F (0 ≤ 1) from (show 0 ≤ 1 from by omega)), (show q_F (1 ≤ 1) from (show 1 ≤ 1 from by omega)), V, q_lw hl (q_lw1 0 rfl (q_lw1 1 rfl (q_lw1 2 rfl (q_lw1 3 rfl (q_lw1 4 rfl q_lw0))))), (show F_NH_decimal_abt_J36 x2 x3 x4 x5 t0_0 t0_1 t1_0 t1_1 t2_0 t3_0 t3_1 t4_0 t5_0 t5_1 t6_0 t7_0 t7_1 t8_0 t9_0 t9_1 t10_0 t11_0 t11_1 t12_0 t12_1 t13_0 1 = (F_NH_decimal_abt x2 x3 x4 x5 t0_0 t0_1 t1_0 t1_1 t2_0 t3_0 t3_1 t4_0 t5_0 t5_1 t6_0 t7_0 t7_1 t8_0 t9_0 t9_1 t10_0 t11_0 t11_1 t12_0 t12_1 t13_0) from (by have c853x := c853; rw [e852] at c853x; have c863x := c863; rw [e862] at c863x; have c873x := c873; rw [e872] at c873x; rw [F_NH_decimal_abt.eq_1, if_neg c840, if_neg c843, if_neg c853x, if_neg c863x, if_neg c873x])), (show True ∧ S_NH_decimal_abt_J36 x2 x3 x4 x5 t0_0 t0_1 t1_0 t1_1 t2_0 t3_0 t3_1 t4_0 t5_0 t5_1 t6_0 t7_0 t7_1 t8_0 t9_0 t9_1 t10_0 t11_0 t11_1 t12_0 t12_1 t13_0 1 from (by have h := hS; rw [S_NH_decimal_abt.eq_1] at h; rw [if_neg c840] at h; rw [if_neg c843] at h; have c853x := c853; rw [e852] at c853x; rw [if_neg c853x] at h; have c863x := c863; rw [e862] at c863x; rw [if_neg c863x] at h; have c873x := c873; rw [e872] at c873x; rw [if_neg c873x] at h; with_reducible exact h))⟩

