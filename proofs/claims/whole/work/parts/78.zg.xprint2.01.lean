def F_Pri_writeBody_c295 (t0_0 : Int32) (t0_1 : Int32) (t0_2 : Int32) (t0_3 : Int32) (t1_0 : (Nat → Int32)) (t2_0 : (Nat → Int64)) (t3_0 : (Nat → Int32)) (t4_0 : Int32) (t4_1 : Int32) (t5_0 : (Nat → Int32)) (t6_0 : Int32) (t7_0 : (Nat → Int64)) (t8_0 : Int32) (t8_1 : Int32) (t8_2 : Int32) (t8_3 : Int32) (t8_4 : Int32) (t8_5 : Int32) (t8_6 : Int32) (t9_0 : Int32) (t10_0 : (Nat → Int64)) (t11_0 : Int32) (t12_0 : (Nat → Int64)) (t13_0 : Int32) (t14_0 : (Nat → Int64)) (t15_0 : Int32) (t16_0 : (Nat → Int64)) (t17_0 : Int32) (t18_0 : (Nat → Int64)) (t19_0 : Int32) (t20_0 : (Nat → Int64)) (t21_0 : Int32) (t22_0 : (Nat → Int64)) (t23_0 : Int32) (t24_0 : (Nat → Int64)) (t25_0 : Int32) (t26_0 : (Nat → Int64)) (lx134 : Int32) (p194 : (Int32 × Int32 × Int32 × Int32 × Int32 × (Nat → Int64))) (y173 : Int32) (y174 : Int32) (y175 : Int32) (y176 : Int32) (y178 : Int32) (f179 : (Nat → Int64)) (p229 : (Int32 × Int32 × (Nat → Int32))) (p264 : (Int32 × Int32 × (Nat → Int32) × Int32 × (Nat → Int64))) (y242 : Int32) (y243 : Int32) (f244 : (Nat → Int32)) (p304 : (Int32 × (Nat → Int64))) : Int32 × Int32 × Int32 × Int32 × Int32 × Int32 × (Nat → Int32) × Int32 × (Nat → Int64) := (y173, y174, y175, y176, y242, y243, f244, (p304.1 : Int32), (p304.2 : (Nat → Int64)))
def F_Pri_writeBody_c260 (t0_0 : Int32) (t0_1 : Int32) (t0_2 : Int32) (t0_3 : Int32) (t1_0 : (Nat → Int32)) (t2_0 : (Nat → Int64)) (t3_0 : (Nat → Int32)) (t4_0 : Int32) (t4_1 : Int32) (t5_0 : (Nat → Int32)) (t6_0 : Int32) (t7_0 : (Nat → Int64)) (t8_0 : Int32) (t8_1 : Int32) (t8_2 : Int32) (t8_3 : Int32) (t8_4 : Int32) (t8_5 : Int32) (t8_6 : Int32) (t9_0 : Int32) (t10_0 : (Nat → Int64)) (t11_0 : Int32) (t12_0 : (Nat → Int64)) (t13_0 : Int32) (t14_0 : (Nat → Int64)) (t15_0 : Int32) (t16_0 : (Nat → Int64)) (t17_0 : Int32) (t18_0 : (Nat → Int64)) (t19_0 : Int32) (t20_0 : (Nat → Int64)) (t21_0 : Int32) (t22_0 : (Nat → Int64)) (t23_0 : Int32) (t24_0 : (Nat → Int64)) (t25_0 : Int32) (t26_0 : (Nat → Int64)) (lx134 : Int32) (p194 : (Int32 × Int32 × Int32 × Int32 × Int32 × (Nat → Int64))) (y173 : Int32) (y174 : Int32) (y175 : Int32) (y176 : Int32) (y178 : Int32) (f179 : (Nat → Int64)) (p229 : (Int32 × Int32 × (Nat → Int32))) (p264 : (Int32 × Int32 × (Nat → Int32) × Int32 × (Nat → Int64))) : Int32 × Int32 × Int32 × Int32 × Int32 × Int32 × (Nat → Int32) × Int32 × (Nat → Int64) := if (0 : Int32) ≤ (lg_cmp (t2_0 y176.toNatClampNeg : Int64) 0 : Int32) then ((y173, y174, y175, y176, (p264.1 : Int32), (p264.2.1 : Int32), (p264.2.2.1 : (Nat → Int32)), (p264.2.2.2.1 : Int32), (p264.2.2.2.2 : (Nat → Int64)))) else (if ((F_Dir_has (32 : Int32) t8_0 t8_1 t8_2 t8_3 t8_4 t8_5 t8_6) : Int32) = (0 : Int32) then ((y173, y174, y175, y176, (p264.1 : Int32), (p264.2.1 : Int32), (p264.2.2.1 : (Nat → Int32)), (p264.2.2.2.1 : Int32), (p264.2.2.2.2 : (Nat → Int64)))) else (F_Pri_writeBody_c295 t0_0 t0_1 t0_2 t0_3 t1_0 t2_0 t3_0 t4_0 t4_1 t5_0 t6_0 t7_0 t8_0 t8_1 t8_2 t8_3 t8_4 t8_5 t8_6 t9_0 t10_0 t11_0 t12_0 t13_0 t14_0 t15_0 t16_0 t17_0 t18_0 t19_0 t20_0 t21_0 t22_0 t23_0 t24_0 t25_0 t26_0 lx134 p194 y173 y174 y175 y176 y178 f179 p229 p264 (p264.1 : Int32) (p264.2.1 : Int32) (p264.2.2.1 : (Nat → Int32)) ((F_She_add_p (4104 : Int32) (513 : Int32) (1000000 : Int32) (41 : Int32) (p264.2.2.2.1 : Int32) (p264.2.2.2.2 : (Nat → Int64))) : (Int32 × (Nat → Int64)))))
def F_Pri_writeBody_c256 (t0_0 : Int32) (t0_1 : Int32) (t0_2 : Int32) (t0_3 : Int32) (t1_0 : (Nat → Int32)) (t2_0 : (Nat → Int64)) (t3_0 : (Nat → Int32)) (t4_0 : Int32) (t4_1 : Int32) (t5_0 : (Nat → Int32)) (t6_0 : Int32) (t7_0 : (Nat → Int64)) (t8_0 : Int32) (t8_1 : Int32) (t8_2 : Int32) (t8_3 : Int32) (t8_4 : Int32) (t8_5 : Int32) (t8_6 : Int32) (t9_0 : Int32) (t10_0 : (Nat → Int64)) (t11_0 : Int32) (t12_0 : (Nat → Int64)) (t13_0 : Int32) (t14_0 : (Nat → Int64)) (t15_0 : Int32) (t16_0 : (Nat → Int64)) (t17_0 : Int32) (t18_0 : (Nat → Int64)) (t19_0 : Int32) (t20_0 : (Nat → Int64)) (t21_0 : Int32) (t22_0 : (Nat → Int64)) (t23_0 : Int32) (t24_0 : (Nat → Int64)) (t25_0 : Int32) (t26_0 : (Nat → Int64)) (lx134 : Int32) (p194 : (Int32 × Int32 × Int32 × Int32 × Int32 × (Nat → Int64))) (y173 : Int32) (y174 : Int32) (y175 : Int32) (y176 : Int32) (y178 : Int32) (f179 : (Nat → Int64)) (p229 : (Int32 × Int32 × (Nat → Int32))) : Int32 × Int32 × Int32 × Int32 × Int32 × Int32 × (Nat → Int32) × Int32 × (Nat → Int64) := F_Pri_writeBody_c260 t0_0 t0_1 t0_2 t0_3 t1_0 t2_0 t3_0 t4_0 t4_1 t5_0 t6_0 t7_0 t8_0 t8_1 t8_2 t8_3 t8_4 t8_5 t8_6 t9_0 t10_0 t11_0 t12_0 t13_0 t14_0 t15_0 t16_0 t17_0 t18_0 t19_0 t20_0 t21_0 t22_0 t23_0 t24_0 t25_0 t26_0 lx134 p194 y173 y174 y175 y176 y178 f179 p229 ((F_Pri_writeNumber (p229.1 : Int32) (p229.2.1 : Int32) (p229.2.2 : (Nat → Int32)) y178 f179 t8_0 t8_1 t8_2 t8_3 t8_4 t8_5 t8_6) : (Int32 × Int32 × (Nat → Int32) × Int32 × (Nat → Int64)))
def F_Pri_writeBody_c231 (t0_0 : Int32) (t0_1 : Int32) (t0_2 : Int32) (t0_3 : Int32) (t1_0 : (Nat → Int32)) (t2_0 : (Nat → Int64)) (t3_0 : (Nat → Int32)) (t4_0 : Int32) (t4_1 : Int32) (t5_0 : (Nat → Int32)) (t6_0 : Int32) (t7_0 : (Nat → Int64)) (t8_0 : Int32) (t8_1 : Int32) (t8_2 : Int32) (t8_3 : Int32) (t8_4 : Int32) (t8_5 : Int32) (t8_6 : Int32) (t9_0 : Int32) (t10_0 : (Nat → Int64)) (t11_0 : Int32) (t12_0 : (Nat → Int64)) (t13_0 : Int32) (t14_0 : (Nat → Int64)) (t15_0 : Int32) (t16_0 : (Nat → Int64)) (t17_0 : Int32) (t18_0 : (Nat → Int64)) (t19_0 : Int32) (t20_0 : (Nat → Int64)) (t21_0 : Int32) (t22_0 : (Nat → Int64)) (t23_0 : Int32) (t24_0 : (Nat → Int64)) (t25_0 : Int32) (t26_0 : (Nat → Int64)) (lx134 : Int32) (p194 : (Int32 × Int32 × Int32 × Int32 × Int32 × (Nat → Int64))) : Int32 × Int32 × Int32 × Int32 × Int32 × Int32 × (Nat → Int32) × Int32 × (Nat → Int64) := F_Pri_writeBody_c256 t0_0 t0_1 t0_2 t0_3 t1_0 t2_0 t3_0 t4_0 t4_1 t5_0 t6_0 t7_0 t8_0 t8_1 t8_2 t8_3 t8_4 t8_5 t8_6 t9_0 t10_0 t11_0 t12_0 t13_0 t14_0 t15_0 t16_0 t17_0 t18_0 t19_0 t20_0 t21_0 t22_0 t23_0 t24_0 t25_0 t26_0 lx134 p194 (p194.1 : Int32) (p194.2.1 : Int32) (p194.2.2.1 : Int32) (p194.2.2.2.1 : Int32) (p194.2.2.2.2.1 : Int32) (p194.2.2.2.2.2 : (Nat → Int64)) ((F_Dig_fillLong (t2_0 (p194.2.2.2.1 : Int32).toNatClampNeg : Int64) (t3_0 (p194.2.2.2.1 : Int32).toNatClampNeg : Int32) t4_0 t4_1 t5_0) : (Int32 × Int32 × (Nat → Int32)))
def F_Pri_writeBody_J231 (t0_0 : Int32) (t0_1 : Int32) (t0_2 : Int32) (t0_3 : Int32) (t1_0 : (Nat → Int32)) (t2_0 : (Nat → Int64)) (t3_0 : (Nat → Int32)) (t4_0 : Int32) (t4_1 : Int32) (t5_0 : (Nat → Int32)) (t6_0 : Int32) (t7_0 : (Nat → Int64)) (t8_0 : Int32) (t8_1 : Int32) (t8_2 : Int32) (t8_3 : Int32) (t8_4 : Int32) (t8_5 : Int32) (t8_6 : Int32) (t9_0 : Int32) (t10_0 : (Nat → Int64)) (t11_0 : Int32) (t12_0 : (Nat → Int64)) (t13_0 : Int32) (t14_0 : (Nat → Int64)) (t15_0 : Int32) (t16_0 : (Nat → Int64)) (t17_0 : Int32) (t18_0 : (Nat → Int64)) (t19_0 : Int32) (t20_0 : (Nat → Int64)) (t21_0 : Int32) (t22_0 : (Nat → Int64)) (t23_0 : Int32) (t24_0 : (Nat → Int64)) (t25_0 : Int32) (t26_0 : (Nat → Int64)) (lx134 : Int32) : Int32 × Int32 × Int32 × Int32 × Int32 × Int32 × (Nat → Int32) × Int32 × (Nat → Int64) := F_Pri_writeBody_c231 t0_0 t0_1 t0_2 t0_3 t1_0 t2_0 t3_0 t4_0 t4_1 t5_0 t6_0 t7_0 t8_0 t8_1 t8_2 t8_3 t8_4 t8_5 t8_6 t9_0 t10_0 t11_0 t12_0 t13_0 t14_0 t15_0 t16_0 t17_0 t18_0 t19_0 t20_0 t21_0 t22_0 t23_0 t24_0 t25_0 t26_0 lx134 ((F_Pri_writeSign lx134 t0_0 t0_1 t0_2 t0_3 t6_0 t7_0 t8_0 t8_1 t8_2 t8_3 t8_4 t8_5 t8_6) : (Int32 × Int32 × Int32 × Int32 × Int32 × (Nat → Int64)))
def F_Pri_writeBody_c205 (t0_0 : Int32) (t0_1 : Int32) (t0_2 : Int32) (t0_3 : Int32) (t1_0 : (Nat → Int32)) (t2_0 : (Nat → Int64)) (t3_0 : (Nat → Int32)) (t4_0 : Int32) (t4_1 : Int32) (t5_0 : (Nat → Int32)) (t6_0 : Int32) (t7_0 : (Nat → Int64)) (t8_0 : Int32) (t8_1 : Int32) (t8_2 : Int32) (t8_3 : Int32) (t8_4 : Int32) (t8_5 : Int32) (t8_6 : Int32) (t9_0 : Int32) (t10_0 : (Nat → Int64)) (t11_0 : Int32) (t12_0 : (Nat → Int64)) (t13_0 : Int32) (t14_0 : (Nat → Int64)) (t15_0 : Int32) (t16_0 : (Nat → Int64)) (t17_0 : Int32) (t18_0 : (Nat → Int64)) (t19_0 : Int32) (t20_0 : (Nat → Int64)) (t21_0 : Int32) (t22_0 : (Nat → Int64)) (t23_0 : Int32) (t24_0 : (Nat → Int64)) (t25_0 : Int32) (t26_0 : (Nat → Int64)) (a96 : Int32) (p342 : (Int32 × Int32 × Int32 × Int32 × Int32 × (Nat → Int64))) : Int32 × Int32 × Int32 × Int32 × Int32 × Int32 × (Nat → Int32) × Int32 × (Nat → Int64) := ((p342.1 : Int32), (p342.2.1 : Int32), (p342.2.2.1 : Int32), (p342.2.2.2.1 : Int32), t4_0, t4_1, t5_0, (p342.2.2.2.2.1 : Int32), (p342.2.2.2.2.2 : (Nat → Int64)))
def F_Pri_writeBody_c177 (t0_0 : Int32) (t0_1 : Int32) (t0_2 : Int32) (t0_3 : Int32) (t1_0 : (Nat → Int32)) (t2_0 : (Nat → Int64)) (t3_0 : (Nat → Int32)) (t4_0 : Int32) (t4_1 : Int32) (t5_0 : (Nat → Int32)) (t6_0 : Int32) (t7_0 : (Nat → Int64)) (t8_0 : Int32) (t8_1 : Int32) (t8_2 : Int32) (t8_3 : Int32) (t8_4 : Int32) (t8_5 : Int32) (t8_6 : Int32) (t9_0 : Int32) (t10_0 : (Nat → Int64)) (t11_0 : Int32) (t12_0 : (Nat → Int64)) (t13_0 : Int32) (t14_0 : (Nat → Int64)) (t15_0 : Int32) (t16_0 : (Nat → Int64)) (t17_0 : Int32) (t18_0 : (Nat → Int64)) (t19_0 : Int32) (t20_0 : (Nat → Int64)) (t21_0 : Int32) (t22_0 : (Nat → Int64)) (t23_0 : Int32) (t24_0 : (Nat → Int64)) (t25_0 : Int32) (t26_0 : (Nat → Int64)) (a96 : Int32) (p370 : (Int32 × (Nat → Int64))) : Int32 × Int32 × Int32 × Int32 × Int32 × Int32 × (Nat → Int32) × Int32 × (Nat → Int64) := (t0_0, t0_1, t0_2, t0_3, t4_0, t4_1, t5_0, (p370.1 : Int32), (p370.2 : (Nat → Int64)))
def F_Pri_writeBody_c152 (t0_0 : Int32) (t0_1 : Int32) (t0_2 : Int32) (t0_3 : Int32) (t1_0 : (Nat → Int32)) (t2_0 : (Nat → Int64)) (t3_0 : (Nat → Int32)) (t4_0 : Int32) (t4_1 : Int32) (t5_0 : (Nat → Int32)) (t6_0 : Int32) (t7_0 : (Nat → Int64)) (t8_0 : Int32) (t8_1 : Int32) (t8_2 : Int32) (t8_3 : Int32) (t8_4 : Int32) (t8_5 : Int32) (t8_6 : Int32) (t9_0 : Int32) (t10_0 : (Nat → Int64)) (t11_0 : Int32) (t12_0 : (Nat → Int64)) (t13_0 : Int32) (t14_0 : (Nat → Int64)) (t15_0 : Int32) (t16_0 : (Nat → Int64)) (t17_0 : Int32) (t18_0 : (Nat → Int64)) (t19_0 : Int32) (t20_0 : (Nat → Int64)) (t21_0 : Int32) (t22_0 : (Nat → Int64)) (t23_0 : Int32) (t24_0 : (Nat → Int64)) (t25_0 : Int32) (t26_0 : (Nat → Int64)) (a96 : Int32) (p390 : (Int32 × (Nat → Int64))) : Int32 × Int32 × Int32 × Int32 × Int32 × Int32 × (Nat → Int32) × Int32 × (Nat → Int64) := (t0_0, t0_1, t0_2, t0_3, t4_0, t4_1, t5_0, (p390.1 : Int32), (p390.2 : (Nat → Int64)))
def F_Pri_writeBody_c132 (t0_0 : Int32) (t0_1 : Int32) (t0_2 : Int32) (t0_3 : Int32) (t1_0 : (Nat → Int32)) (t2_0 : (Nat → Int64)) (t3_0 : (Nat → Int32)) (t4_0 : Int32) (t4_1 : Int32) (t5_0 : (Nat → Int32)) (t6_0 : Int32) (t7_0 : (Nat → Int64)) (t8_0 : Int32) (t8_1 : Int32) (t8_2 : Int32) (t8_3 : Int32) (t8_4 : Int32) (t8_5 : Int32) (t8_6 : Int32) (t9_0 : Int32) (t10_0 : (Nat → Int64)) (t11_0 : Int32) (t12_0 : (Nat → Int64)) (t13_0 : Int32) (t14_0 : (Nat → Int64)) (t15_0 : Int32) (t16_0 : (Nat → Int64)) (t17_0 : Int32) (t18_0 : (Nat → Int64)) (t19_0 : Int32) (t20_0 : (Nat → Int64)) (t21_0 : Int32) (t22_0 : (Nat → Int64)) (t23_0 : Int32) (t24_0 : (Nat → Int64)) (t25_0 : Int32) (t26_0 : (Nat → Int64)) (a96 : Int32) (p423 : (Int32 × Int32 × (Nat → Int32) × Int32 × (Nat → Int64))) : Int32 × Int32 × Int32 × Int32 × Int32 × Int32 × (Nat → Int32) × Int32 × (Nat → Int64) := (t0_0, t0_1, t0_2, t0_3, (p423.1 : Int32), (p423.2.1 : Int32), (p423.2.2.1 : (Nat → Int32)), ((F_Pri_cutBody (p423.2.2.2.1 : Int32) (p423.2.2.2.2 : (Nat → Int64)) t8_0 t8_1 t8_2 t8_3 t8_4 t8_5 t8_6) : Int32), (p423.2.2.2.2 : (Nat → Int64)))
def F_Pri_writeBody_c105 (t0_0 : Int32) (t0_1 : Int32) (t0_2 : Int32) (t0_3 : Int32) (t1_0 : (Nat → Int32)) (t2_0 : (Nat → Int64)) (t3_0 : (Nat → Int32)) (t4_0 : Int32) (t4_1 : Int32) (t5_0 : (Nat → Int32)) (t6_0 : Int32) (t7_0 : (Nat → Int64)) (t8_0 : Int32) (t8_1 : Int32) (t8_2 : Int32) (t8_3 : Int32) (t8_4 : Int32) (t8_5 : Int32) (t8_6 : Int32) (t9_0 : Int32) (t10_0 : (Nat → Int64)) (t11_0 : Int32) (t12_0 : (Nat → Int64)) (t13_0 : Int32) (t14_0 : (Nat → Int64)) (t15_0 : Int32) (t16_0 : (Nat → Int64)) (t17_0 : Int32) (t18_0 : (Nat → Int64)) (t19_0 : Int32) (t20_0 : (Nat → Int64)) (t21_0 : Int32) (t22_0 : (Nat → Int64)) (t23_0 : Int32) (t24_0 : (Nat → Int64)) (t25_0 : Int32) (t26_0 : (Nat → Int64)) (lx445 : Int32) (p493 : (Int32 × (Nat → Int64))) : Int32 × Int32 × Int32 × Int32 × Int32 × Int32 × (Nat → Int32) × Int32 × (Nat → Int64) := (t0_0, t0_1, t0_2, t0_3, t4_0, t4_1, t5_0, ((F_Pri_cutBody (p493.1 : Int32) (p493.2 : (Nat → Int64)) t8_0 t8_1 t8_2 t8_3 t8_4 t8_5 t8_6) : Int32), (p493.2 : (Nat → Int64)))
def F_Pri_writeBody_c105_12 (t0_0 : Int32) (t0_1 : Int32) (t0_2 : Int32) (t0_3 : Int32) (t1_0 : (Nat → Int32)) (t2_0 : (Nat → Int64)) (t3_0 : (Nat → Int32)) (t4_0 : Int32) (t4_1 : Int32) (t5_0 : (Nat → Int32)) (t6_0 : Int32) (t7_0 : (Nat → Int64)) (t8_0 : Int32) (t8_1 : Int32) (t8_2 : Int32) (t8_3 : Int32) (t8_4 : Int32) (t8_5 : Int32) (t8_6 : Int32) (t9_0 : Int32) (t10_0 : (Nat → Int64)) (t11_0 : Int32) (t12_0 : (Nat → Int64)) (t13_0 : Int32) (t14_0 : (Nat → Int64)) (t15_0 : Int32) (t16_0 : (Nat → Int64)) (t17_0 : Int32) (t18_0 : (Nat → Int64)) (t19_0 : Int32) (t20_0 : (Nat → Int64)) (t21_0 : Int32) (t22_0 : (Nat → Int64)) (t23_0 : Int32) (t24_0 : (Nat → Int64)) (t25_0 : Int32) (t26_0 : (Nat → Int64)) (lx445 : Int32) (p522 : (Int32 × (Nat → Int64))) : Int32 × Int32 × Int32 × Int32 × Int32 × Int32 × (Nat → Int32) × Int32 × (Nat → Int64) := (t0_0, t0_1, t0_2, t0_3, t4_0, t4_1, t5_0, ((F_Pri_cutBody (p522.1 : Int32) (p522.2 : (Nat → Int64)) t8_0 t8_1 t8_2 t8_3 t8_4 t8_5 t8_6) : Int32), (p522.2 : (Nat → Int64)))
def F_Pri_writeBody_J89 (t0_0 : Int32) (t0_1 : Int32) (t0_2 : Int32) (t0_3 : Int32) (t1_0 : (Nat → Int32)) (t2_0 : (Nat → Int64)) (t3_0 : (Nat → Int32)) (t4_0 : Int32) (t4_1 : Int32) (t5_0 : (Nat → Int32)) (t6_0 : Int32) (t7_0 : (Nat → Int64)) (t8_0 : Int32) (t8_1 : Int32) (t8_2 : Int32) (t8_3 : Int32) (t8_4 : Int32) (t8_5 : Int32) (t8_6 : Int32) (t9_0 : Int32) (t10_0 : (Nat → Int64)) (t11_0 : Int32) (t12_0 : (Nat → Int64)) (t13_0 : Int32) (t14_0 : (Nat → Int64)) (t15_0 : Int32) (t16_0 : (Nat → Int64)) (t17_0 : Int32) (t18_0 : (Nat → Int64)) (t19_0 : Int32) (t20_0 : (Nat → Int64)) (t21_0 : Int32) (t22_0 : (Nat → Int64)) (t23_0 : Int32) (t24_0 : (Nat → Int64)) (t25_0 : Int32) (t26_0 : (Nat → Int64)) (lx445 : Int32) : Int32 × Int32 × Int32 × Int32 × Int32 × Int32 × (Nat → Int32) × Int32 × (Nat → Int64) := if lx445 = (0 : Int32) then (F_Pri_writeBody_c105 t0_0 t0_1 t0_2 t0_3 t1_0 t2_0 t3_0 t4_0 t4_1 t5_0 t6_0 t7_0 t8_0 t8_1 t8_2 t8_3 t8_4 t8_5 t8_6 t9_0 t10_0 t11_0 t12_0 t13_0 t14_0 t15_0 t16_0 t17_0 t18_0 t19_0 t20_0 t21_0 t22_0 t23_0 t24_0 t25_0 t26_0 lx445 ((F_She_addText_13 (4104 : Int32) (513 : Int32) (1000000 : Int32) t6_0 t7_0) : (Int32 × (Nat → Int64)))) else (F_Pri_writeBody_c105_12 t0_0 t0_1 t0_2 t0_3 t1_0 t2_0 t3_0 t4_0 t4_1 t5_0 t6_0 t7_0 t8_0 t8_1 t8_2 t8_3 t8_4 t8_5 t8_6 t9_0 t10_0 t11_0 t12_0 t13_0 t14_0 t15_0 t16_0 t17_0 t18_0 t19_0 t20_0 t21_0 t22_0 t23_0 t24_0 t25_0 t26_0 lx445 ((F_She_addText_12 (4104 : Int32) (513 : Int32) (1000000 : Int32) t6_0 t7_0) : (Int32 × (Nat → Int64))))
def F_Pri_writeBody_J84 (t0_0 : Int32) (t0_1 : Int32) (t0_2 : Int32) (t0_3 : Int32) (t1_0 : (Nat → Int32)) (t2_0 : (Nat → Int64)) (t3_0 : (Nat → Int32)) (t4_0 : Int32) (t4_1 : Int32) (t5_0 : (Nat → Int32)) (t6_0 : Int32) (t7_0 : (Nat → Int64)) (t8_0 : Int32) (t8_1 : Int32) (t8_2 : Int32) (t8_3 : Int32) (t8_4 : Int32) (t8_5 : Int32) (t8_6 : Int32) (t9_0 : Int32) (t10_0 : (Nat → Int64)) (t11_0 : Int32) (t12_0 : (Nat → Int64)) (t13_0 : Int32) (t14_0 : (Nat → Int64)) (t15_0 : Int32) (t16_0 : (Nat → Int64)) (t17_0 : Int32) (t18_0 : (Nat → Int64)) (t19_0 : Int32) (t20_0 : (Nat → Int64)) (t21_0 : Int32) (t22_0 : (Nat → Int64)) (t23_0 : Int32) (t24_0 : (Nat → Int64)) (t25_0 : Int32) (t26_0 : (Nat → Int64)) : Int32 × Int32 × Int32 × Int32 × Int32 × Int32 × (Nat → Int32) × Int32 × (Nat → Int64) := F_Pri_writeBody_J89 t0_0 t0_1 t0_2 t0_3 t1_0 t2_0 t3_0 t4_0 t4_1 t5_0 t6_0 t7_0 t8_0 t8_1 t8_2 t8_3 t8_4 t8_5 t8_6 t9_0 t10_0 t11_0 t12_0 t13_0 t14_0 t15_0 t16_0 t17_0 t18_0 t19_0 t20_0 t21_0 t22_0 t23_0 t24_0 t25_0 t26_0 1
def F_Pri_writeBody_J88 (t0_0 : Int32) (t0_1 : Int32) (t0_2 : Int32) (t0_3 : Int32) (t1_0 : (Nat → Int32)) (t2_0 : (Nat → Int64)) (t3_0 : (Nat → Int32)) (t4_0 : Int32) (t4_1 : Int32) (t5_0 : (Nat → Int32)) (t6_0 : Int32) (t7_0 : (Nat → Int64)) (t8_0 : Int32) (t8_1 : Int32) (t8_2 : Int32) (t8_3 : Int32) (t8_4 : Int32) (t8_5 : Int32) (t8_6 : Int32) (t9_0 : Int32) (t10_0 : (Nat → Int64)) (t11_0 : Int32) (t12_0 : (Nat → Int64)) (t13_0 : Int32) (t14_0 : (Nat → Int64)) (t15_0 : Int32) (t16_0 : (Nat → Int64)) (t17_0 : Int32) (t18_0 : (Nat → Int64)) (t19_0 : Int32) (t20_0 : (Nat → Int64)) (t21_0 : Int32) (t22_0 : (Nat → Int64)) (t23_0 : Int32) (t24_0 : (Nat → Int64)) (t25_0 : Int32) (t26_0 : (Nat → Int64)) : Int32 × Int32 × Int32 × Int32 × Int32 × Int32 × (Nat → Int32) × Int32 × (Nat → Int64) := F_Pri_writeBody_J89 t0_0 t0_1 t0_2 t0_3 t1_0 t2_0 t3_0 t4_0 t4_1 t5_0 t6_0 t7_0 t8_0 t8_1 t8_2 t8_3 t8_4 t8_5 t8_6 t9_0 t10_0 t11_0 t12_0 t13_0 t14_0 t15_0 t16_0 t17_0 t18_0 t19_0 t20_0 t21_0 t22_0 t23_0 t24_0 t25_0 t26_0 0
def F_Pri_writeBody_c35 (t0_0 : Int32) (t0_1 : Int32) (t0_2 : Int32) (t0_3 : Int32) (t1_0 : (Nat → Int32)) (t2_0 : (Nat → Int64)) (t3_0 : (Nat → Int32)) (t4_0 : Int32) (t4_1 : Int32) (t5_0 : (Nat → Int32)) (t6_0 : Int32) (t7_0 : (Nat → Int64)) (t8_0 : Int32) (t8_1 : Int32) (t8_2 : Int32) (t8_3 : Int32) (t8_4 : Int32) (t8_5 : Int32) (t8_6 : Int32) (t9_0 : Int32) (t10_0 : (Nat → Int64)) (t11_0 : Int32) (t12_0 : (Nat → Int64)) (t13_0 : Int32) (t14_0 : (Nat → Int64)) (t15_0 : Int32) (t16_0 : (Nat → Int64)) (t17_0 : Int32) (t18_0 : (Nat → Int64)) (t19_0 : Int32) (t20_0 : (Nat → Int64)) (t21_0 : Int32) (t22_0 : (Nat → Int64)) (t23_0 : Int32) (t24_0 : (Nat → Int64)) (t25_0 : Int32) (t26_0 : (Nat → Int64)) (p633 : (Int32 × (Nat → Int64))) : Int32 × Int32 × Int32 × Int32 × Int32 × Int32 × (Nat → Int32) × Int32 × (Nat → Int64) := (t0_0, t0_1, t0_2, t0_3, t4_0, t4_1, t5_0, (p633.1 : Int32), (p633.2 : (Nat → Int64)))
def F_Pri_writeBody_c35_16 (t0_0 : Int32) (t0_1 : Int32) (t0_2 : Int32) (t0_3 : Int32) (t1_0 : (Nat → Int32)) (t2_0 : (Nat → Int64)) (t3_0 : (Nat → Int32)) (t4_0 : Int32) (t4_1 : Int32) (t5_0 : (Nat → Int32)) (t6_0 : Int32) (t7_0 : (Nat → Int64)) (t8_0 : Int32) (t8_1 : Int32) (t8_2 : Int32) (t8_3 : Int32) (t8_4 : Int32) (t8_5 : Int32) (t8_6 : Int32) (t9_0 : Int32) (t10_0 : (Nat → Int64)) (t11_0 : Int32) (t12_0 : (Nat → Int64)) (t13_0 : Int32) (t14_0 : (Nat → Int64)) (t15_0 : Int32) (t16_0 : (Nat → Int64)) (t17_0 : Int32) (t18_0 : (Nat → Int64)) (t19_0 : Int32) (t20_0 : (Nat → Int64)) (t21_0 : Int32) (t22_0 : (Nat → Int64)) (t23_0 : Int32) (t24_0 : (Nat → Int64)) (t25_0 : Int32) (t26_0 : (Nat → Int64)) (p653 : (Int32 × (Nat → Int64))) : Int32 × Int32 × Int32 × Int32 × Int32 × Int32 × (Nat → Int32) × Int32 × (Nat → Int64) := (t0_0, t0_1, t0_2, t0_3, t4_0, t4_1, t5_0, (p653.1 : Int32), (p653.2 : (Nat → Int64)))
def F_Pri_writeBody (t0_0 : Int32) (t0_1 : Int32) (t0_2 : Int32) (t0_3 : Int32) (t1_0 : (Nat → Int32)) (t2_0 : (Nat → Int64)) (t3_0 : (Nat → Int32)) (t4_0 : Int32) (t4_1 : Int32) (t5_0 : (Nat → Int32)) (t6_0 : Int32) (t7_0 : (Nat → Int64)) (t8_0 : Int32) (t8_1 : Int32) (t8_2 : Int32) (t8_3 : Int32) (t8_4 : Int32) (t8_5 : Int32) (t8_6 : Int32) (t9_0 : Int32) (t10_0 : (Nat → Int64)) (t11_0 : Int32) (t12_0 : (Nat → Int64)) (t13_0 : Int32) (t14_0 : (Nat → Int64)) (t15_0 : Int32) (t16_0 : (Nat → Int64)) (t17_0 : Int32) (t18_0 : (Nat → Int64)) (t19_0 : Int32) (t20_0 : (Nat → Int64)) (t21_0 : Int32) (t22_0 : (Nat → Int64)) (t23_0 : Int32) (t24_0 : (Nat → Int64)) (t25_0 : Int32) (t26_0 : (Nat → Int64)) : Int32 × Int32 × Int32 × Int32 × Int32 × Int32 × (Nat → Int32) × Int32 × (Nat → Int64) := if ((F_Dir_isOneOf_7 t8_0 t8_1 t8_2 t8_3 t8_4 t8_5 t8_6) : Int32) = (0 : Int32) then (if ((F_Dir_isOneOf_11 t8_0 t8_1 t8_2 t8_3 t8_4 t8_5 t8_6) : Int32) = (0 : Int32) then (if ((F_Dir_isOneOf_14 t8_0 t8_1 t8_2 t8_3 t8_4 t8_5 t8_6) : Int32) = (0 : Int32) then (if (t1_0 t0_3.toNatClampNeg : Int32) = (0 : Int32) then (F_Pri_writeBody_c152 t0_0 t0_1 t0_2 t0_3 t1_0 t2_0 t3_0 t4_0 t4_1 t5_0 t6_0 t7_0 t8_0 t8_1 t8_2 t8_3 t8_4 t8_5 t8_6 t9_0 t10_0 t11_0 t12_0 t13_0 t14_0 t15_0 t16_0 t17_0 t18_0 t19_0 t20_0 t21_0 t22_0 t23_0 t24_0 t25_0 t26_0 (t1_0 t0_3.toNatClampNeg : Int32) ((F_She_addText_15 (4104 : Int32) (513 : Int32) (1000000 : Int32) t6_0 t7_0) : (Int32 × (Nat → Int64)))) else (if (t1_0 t0_3.toNatClampNeg : Int32) = (2 : Int32) then (F_Pri_writeBody_c177 t0_0 t0_1 t0_2 t0_3 t1_0 t2_0 t3_0 t4_0 t4_1 t5_0 t6_0 t7_0 t8_0 t8_1 t8_2 t8_3 t8_4 t8_5 t8_6 t9_0 t10_0 t11_0 t12_0 t13_0 t14_0 t15_0 t16_0 t17_0 t18_0 t19_0 t20_0 t21_0 t22_0 t23_0 t24_0 t25_0 t26_0 (t1_0 t0_3.toNatClampNeg : Int32) ((F_She_add_p (4104 : Int32) (513 : Int32) (1000000 : Int32) ((t2_0 t0_3.toNatClampNeg : Int64).toInt32 : Int32) t6_0 t7_0) : (Int32 × (Nat → Int64)))) else (if ((F_Dir_isOneOf_16 t8_0 t8_1 t8_2 t8_3 t8_4 t8_5 t8_6) : Int32) = (0 : Int32) then (if (0 : Int32) ≤ (lg_cmp (t2_0 t0_3.toNatClampNeg : Int64) 0 : Int32) then (F_Pri_writeBody_J231 t0_0 t0_1 t0_2 t0_3 t1_0 t2_0 t3_0 t4_0 t4_1 t5_0 t6_0 t7_0 t8_0 t8_1 t8_2 t8_3 t8_4 t8_5 t8_6 t9_0 t10_0 t11_0 t12_0 t13_0 t14_0 t15_0 t16_0 t17_0 t18_0 t19_0 t20_0 t21_0 t22_0 t23_0 t24_0 t25_0 t26_0 0) else (F_Pri_writeBody_J231 t0_0 t0_1 t0_2 t0_3 t1_0 t2_0 t3_0 t4_0 t4_1 t5_0 t6_0 t7_0 t8_0 t8_1 t8_2 t8_3 t8_4 t8_5 t8_6 t9_0 t10_0 t11_0 t12_0 t13_0 t14_0 t15_0 t16_0 t17_0 t18_0 t19_0 t20_0 t21_0 t22_0 t23_0 t24_0 t25_0 t26_0 1)) else (F_Pri_writeBody_c205 t0_0 t0_1 t0_2 t0_3 t1_0 t2_0 t3_0 t4_0 t4_1 t5_0 t6_0 t7_0 t8_0 t8_1 t8_2 t8_3 t8_4 t8_5 t8_6 t9_0 t10_0 t11_0 t12_0 t13_0 t14_0 t15_0 t16_0 t17_0 t18_0 t19_0 t20_0 t21_0 t22_0 t23_0 t24_0 t25_0 t26_0 (t1_0 t0_3.toNatClampNeg : Int32) ((F_Pri_writeToBase (t2_0 t0_3.toNatClampNeg : Int64) t0_0 t0_1 t0_2 t0_3 t6_0 t7_0 t8_0 t8_1 t8_2 t8_3 t8_4 t8_5 t8_6) : (Int32 × Int32 × Int32 × Int32 × Int32 × (Nat → Int64))))))) else (F_Pri_writeBody_c132 t0_0 t0_1 t0_2 t0_3 t1_0 t2_0 t3_0 t4_0 t4_1 t5_0 t6_0 t7_0 t8_0 t8_1 t8_2 t8_3 t8_4 t8_5 t8_6 t9_0 t10_0 t11_0 t12_0 t13_0 t14_0 t15_0 t16_0 t17_0 t18_0 t19_0 t20_0 t21_0 t22_0 t23_0 t24_0 t25_0 t26_0 (t1_0 t0_3.toNatClampNeg : Int32) ((F_Pri_writeAnything t0_3 t0_0 t0_1 t0_2 t0_3 t1_0 t2_0 t3_0 t4_0 t4_1 t5_0 t6_0 t7_0 t9_0 t10_0 t11_0 t12_0 t13_0 t14_0 t15_0 t16_0 t17_0 t18_0 t19_0 t20_0 t21_0 t22_0 t23_0 t24_0 t25_0 t26_0) : (Int32 × Int32 × (Nat → Int32) × Int32 × (Nat → Int64))))) else (if (t1_0 t0_3.toNatClampNeg : Int32) = (0 : Int32) then (F_Pri_writeBody_J84 t0_0 t0_1 t0_2 t0_3 t1_0 t2_0 t3_0 t4_0 t4_1 t5_0 t6_0 t7_0 t8_0 t8_1 t8_2 t8_3 t8_4 t8_5 t8_6 t9_0 t10_0 t11_0 t12_0 t13_0 t14_0 t15_0 t16_0 t17_0 t18_0 t19_0 t20_0 t21_0 t22_0 t23_0 t24_0 t25_0 t26_0) else (if (t1_0 t0_3.toNatClampNeg : Int32) = (1 : Int32) then (if (lg_cmp (t2_0 t0_3.toNatClampNeg : Int64) 0 : Int32) = (0 : Int32) then (F_Pri_writeBody_J84 t0_0 t0_1 t0_2 t0_3 t1_0 t2_0 t3_0 t4_0 t4_1 t5_0 t6_0 t7_0 t8_0 t8_1 t8_2 t8_3 t8_4 t8_5 t8_6 t9_0 t10_0 t11_0 t12_0 t13_0 t14_0 t15_0 t16_0 t17_0 t18_0 t19_0 t20_0 t21_0 t22_0 t23_0 t24_0 t25_0 t26_0) else (F_Pri_writeBody_J88 t0_0 t0_1 t0_2 t0_3 t1_0 t2_0 t3_0 t4_0 t4_1 t5_0 t6_0 t7_0 t8_0 t8_1 t8_2 t8_3 t8_4 t8_5 t8_6 t9_0 t10_0 t11_0 t12_0 t13_0 t14_0 t15_0 t16_0 t17_0 t18_0 t19_0 t20_0 t21_0 t22_0 t23_0 t24_0 t25_0 t26_0)) else (F_Pri_writeBody_J88 t0_0 t0_1 t0_2 t0_3 t1_0 t2_0 t3_0 t4_0 t4_1 t5_0 t6_0 t7_0 t8_0 t8_1 t8_2 t8_3 t8_4 t8_5 t8_6 t9_0 t10_0 t11_0 t12_0 t13_0 t14_0 t15_0 t16_0 t17_0 t18_0 t19_0 t20_0 t21_0 t22_0 t23_0 t24_0 t25_0 t26_0)))) else (if t8_4 = (110 : Int32) then (F_Pri_writeBody_c35_16 t0_0 t0_1 t0_2 t0_3 t1_0 t2_0 t3_0 t4_0 t4_1 t5_0 t6_0 t7_0 t8_0 t8_1 t8_2 t8_3 t8_4 t8_5 t8_6 t9_0 t10_0 t11_0 t12_0 t13_0 t14_0 t15_0 t16_0 t17_0 t18_0 t19_0 t20_0 t21_0 t22_0 t23_0 t24_0 t25_0 t26_0 ((F_She_add_p (4104 : Int32) (513 : Int32) (1000000 : Int32) (10 : Int32) t6_0 t7_0) : (Int32 × (Nat → Int64)))) else (F_Pri_writeBody_c35 t0_0 t0_1 t0_2 t0_3 t1_0 t2_0 t3_0 t4_0 t4_1 t5_0 t6_0 t7_0 t8_0 t8_1 t8_2 t8_3 t8_4 t8_5 t8_6 t9_0 t10_0 t11_0 t12_0 t13_0 t14_0 t15_0 t16_0 t17_0 t18_0 t19_0 t20_0 t21_0 t22_0 t23_0 t24_0 t25_0 t26_0 ((F_She_add_p (4104 : Int32) (513 : Int32) (1000000 : Int32) (37 : Int32) t6_0 t7_0) : (Int32 × (Nat → Int64)))))
def S_Pri_writeBody_c295 (t0_0 : Int32) (t0_1 : Int32) (t0_2 : Int32) (t0_3 : Int32) (t1_0 : (Nat → Int32)) (t2_0 : (Nat → Int64)) (t3_0 : (Nat → Int32)) (t4_0 : Int32) (t4_1 : Int32) (t5_0 : (Nat → Int32)) (t6_0 : Int32) (t7_0 : (Nat → Int64)) (t8_0 : Int32) (t8_1 : Int32) (t8_2 : Int32) (t8_3 : Int32) (t8_4 : Int32) (t8_5 : Int32) (t8_6 : Int32) (t9_0 : Int32) (t10_0 : (Nat → Int64)) (t11_0 : Int32) (t12_0 : (Nat → Int64)) (t13_0 : Int32) (t14_0 : (Nat → Int64)) (t15_0 : Int32) (t16_0 : (Nat → Int64)) (t17_0 : Int32) (t18_0 : (Nat → Int64)) (t19_0 : Int32) (t20_0 : (Nat → Int64)) (t21_0 : Int32) (t22_0 : (Nat → Int64)) (t23_0 : Int32) (t24_0 : (Nat → Int64)) (t25_0 : Int32) (t26_0 : (Nat → Int64)) (lx134 : Int32) (p194 : (Int32 × Int32 × Int32 × Int32 × Int32 × (Nat → Int64))) (y173 : Int32) (y174 : Int32) (y175 : Int32) (y176 : Int32) (y178 : Int32) (f179 : (Nat → Int64)) (p229 : (Int32 × Int32 × (Nat → Int32))) (p264 : (Int32 × Int32 × (Nat → Int32) × Int32 × (Nat → Int64))) (y242 : Int32) (y243 : Int32) (f244 : (Nat → Int32)) (p304 : (Int32 × (Nat → Int64))) : Prop := True
def S_Pri_writeBody_c260 (t0_0 : Int32) (t0_1 : Int32) (t0_2 : Int32) (t0_3 : Int32) (t1_0 : (Nat → Int32)) (t2_0 : (Nat → Int64)) (t3_0 : (Nat → Int32)) (t4_0 : Int32) (t4_1 : Int32) (t5_0 : (Nat → Int32)) (t6_0 : Int32) (t7_0 : (Nat → Int64)) (t8_0 : Int32) (t8_1 : Int32) (t8_2 : Int32) (t8_3 : Int32) (t8_4 : Int32) (t8_5 : Int32) (t8_6 : Int32) (t9_0 : Int32) (t10_0 : (Nat → Int64)) (t11_0 : Int32) (t12_0 : (Nat → Int64)) (t13_0 : Int32) (t14_0 : (Nat → Int64)) (t15_0 : Int32) (t16_0 : (Nat → Int64)) (t17_0 : Int32) (t18_0 : (Nat → Int64)) (t19_0 : Int32) (t20_0 : (Nat → Int64)) (t21_0 : Int32) (t22_0 : (Nat → Int64)) (t23_0 : Int32) (t24_0 : (Nat → Int64)) (t25_0 : Int32) (t26_0 : (Nat → Int64)) (lx134 : Int32) (p194 : (Int32 × Int32 × Int32 × Int32 × Int32 × (Nat → Int64))) (y173 : Int32) (y174 : Int32) (y175 : Int32) (y176 : Int32) (y178 : Int32) (f179 : (Nat → Int64)) (p229 : (Int32 × Int32 × (Nat → Int32))) (p264 : (Int32 × Int32 × (Nat → Int32) × Int32 × (Nat → Int64))) : Prop := if (0 : Int32) ≤ (lg_cmp (t2_0 y176.toNatClampNeg : Int64) 0 : Int32) then (True) else (if ((F_Dir_has (32 : Int32) t8_0 t8_1 t8_2 t8_3 t8_4 t8_5 t8_6) : Int32) = (0 : Int32) then (True) else (S_Pri_writeBody_c295 t0_0 t0_1 t0_2 t0_3 t1_0 t2_0 t3_0 t4_0 t4_1 t5_0 t6_0 t7_0 t8_0 t8_1 t8_2 t8_3 t8_4 t8_5 t8_6 t9_0 t10_0 t11_0 t12_0 t13_0 t14_0 t15_0 t16_0 t17_0 t18_0 t19_0 t20_0 t21_0 t22_0 t23_0 t24_0 t25_0 t26_0 lx134 p194 y173 y174 y175 y176 y178 f179 p229 p264 (p264.1 : Int32) (p264.2.1 : Int32) (p264.2.2.1 : (Nat → Int32)) ((F_She_add_p (4104 : Int32) (513 : Int32) (1000000 : Int32) (41 : Int32) (p264.2.2.2.1 : Int32) (p264.2.2.2.2 : (Nat → Int64))) : (Int32 × (Nat → Int64)))))
def S_Pri_writeBody_c256 (t0_0 : Int32) (t0_1 : Int32) (t0_2 : Int32) (t0_3 : Int32) (t1_0 : (Nat → Int32)) (t2_0 : (Nat → Int64)) (t3_0 : (Nat → Int32)) (t4_0 : Int32) (t4_1 : Int32) (t5_0 : (Nat → Int32)) (t6_0 : Int32) (t7_0 : (Nat → Int64)) (t8_0 : Int32) (t8_1 : Int32) (t8_2 : Int32) (t8_3 : Int32) (t8_4 : Int32) (t8_5 : Int32) (t8_6 : Int32) (t9_0 : Int32) (t10_0 : (Nat → Int64)) (t11_0 : Int32) (t12_0 : (Nat → Int64)) (t13_0 : Int32) (t14_0 : (Nat → Int64)) (t15_0 : Int32) (t16_0 : (Nat → Int64)) (t17_0 : Int32) (t18_0 : (Nat → Int64)) (t19_0 : Int32) (t20_0 : (Nat → Int64)) (t21_0 : Int32) (t22_0 : (Nat → Int64)) (t23_0 : Int32) (t24_0 : (Nat → Int64)) (t25_0 : Int32) (t26_0 : (Nat → Int64)) (lx134 : Int32) (p194 : (Int32 × Int32 × Int32 × Int32 × Int32 × (Nat → Int64))) (y173 : Int32) (y174 : Int32) (y175 : Int32) (y176 : Int32) (y178 : Int32) (f179 : (Nat → Int64)) (p229 : (Int32 × Int32 × (Nat → Int32))) : Prop := S_Pri_writeBody_c260 t0_0 t0_1 t0_2 t0_3 t1_0 t2_0 t3_0 t4_0 t4_1 t5_0 t6_0 t7_0 t8_0 t8_1 t8_2 t8_3 t8_4 t8_5 t8_6 t9_0 t10_0 t11_0 t12_0 t13_0 t14_0 t15_0 t16_0 t17_0 t18_0 t19_0 t20_0 t21_0 t22_0 t23_0 t24_0 t25_0 t26_0 lx134 p194 y173 y174 y175 y176 y178 f179 p229 ((F_Pri_writeNumber (p229.1 : Int32) (p229.2.1 : Int32) (p229.2.2 : (Nat → Int32)) y178 f179 t8_0 t8_1 t8_2 t8_3 t8_4 t8_5 t8_6) : (Int32 × Int32 × (Nat → Int32) × Int32 × (Nat → Int64)))
def S_Pri_writeBody_c231 (t0_0 : Int32) (t0_1 : Int32) (t0_2 : Int32) (t0_3 : Int32) (t1_0 : (Nat → Int32)) (t2_0 : (Nat → Int64)) (t3_0 : (Nat → Int32)) (t4_0 : Int32) (t4_1 : Int32) (t5_0 : (Nat → Int32)) (t6_0 : Int32) (t7_0 : (Nat → Int64)) (t8_0 : Int32) (t8_1 : Int32) (t8_2 : Int32) (t8_3 : Int32) (t8_4 : Int32) (t8_5 : Int32) (t8_6 : Int32) (t9_0 : Int32) (t10_0 : (Nat → Int64)) (t11_0 : Int32) (t12_0 : (Nat → Int64)) (t13_0 : Int32) (t14_0 : (Nat → Int64)) (t15_0 : Int32) (t16_0 : (Nat → Int64)) (t17_0 : Int32) (t18_0 : (Nat → Int64)) (t19_0 : Int32) (t20_0 : (Nat → Int64)) (t21_0 : Int32) (t22_0 : (Nat → Int64)) (t23_0 : Int32) (t24_0 : (Nat → Int64)) (t25_0 : Int32) (t26_0 : (Nat → Int64)) (lx134 : Int32) (p194 : (Int32 × Int32 × Int32 × Int32 × Int32 × (Nat → Int64))) : Prop := S_Pri_writeBody_c256 t0_0 t0_1 t0_2 t0_3 t1_0 t2_0 t3_0 t4_0 t4_1 t5_0 t6_0 t7_0 t8_0 t8_1 t8_2 t8_3 t8_4 t8_5 t8_6 t9_0 t10_0 t11_0 t12_0 t13_0 t14_0 t15_0 t16_0 t17_0 t18_0 t19_0 t20_0 t21_0 t22_0 t23_0 t24_0 t25_0 t26_0 lx134 p194 (p194.1 : Int32) (p194.2.1 : Int32) (p194.2.2.1 : Int32) (p194.2.2.2.1 : Int32) (p194.2.2.2.2.1 : Int32) (p194.2.2.2.2.2 : (Nat → Int64)) ((F_Dig_fillLong (t2_0 (p194.2.2.2.1 : Int32).toNatClampNeg : Int64) (t3_0 (p194.2.2.2.1 : Int32).toNatClampNeg : Int32) t4_0 t4_1 t5_0) : (Int32 × Int32 × (Nat → Int32)))
def S_Pri_writeBody_J231 (t0_0 : Int32) (t0_1 : Int32) (t0_2 : Int32) (t0_3 : Int32) (t1_0 : (Nat → Int32)) (t2_0 : (Nat → Int64)) (t3_0 : (Nat → Int32)) (t4_0 : Int32) (t4_1 : Int32) (t5_0 : (Nat → Int32)) (t6_0 : Int32) (t7_0 : (Nat → Int64)) (t8_0 : Int32) (t8_1 : Int32) (t8_2 : Int32) (t8_3 : Int32) (t8_4 : Int32) (t8_5 : Int32) (t8_6 : Int32) (t9_0 : Int32) (t10_0 : (Nat → Int64)) (t11_0 : Int32) (t12_0 : (Nat → Int64)) (t13_0 : Int32) (t14_0 : (Nat → Int64)) (t15_0 : Int32) (t16_0 : (Nat → Int64)) (t17_0 : Int32) (t18_0 : (Nat → Int64)) (t19_0 : Int32) (t20_0 : (Nat → Int64)) (t21_0 : Int32) (t22_0 : (Nat → Int64)) (t23_0 : Int32) (t24_0 : (Nat → Int64)) (t25_0 : Int32) (t26_0 : (Nat → Int64)) (lx134 : Int32) : Prop := S_Pri_writeBody_c231 t0_0 t0_1 t0_2 t0_3 t1_0 t2_0 t3_0 t4_0 t4_1 t5_0 t6_0 t7_0 t8_0 t8_1 t8_2 t8_3 t8_4 t8_5 t8_6 t9_0 t10_0 t11_0 t12_0 t13_0 t14_0 t15_0 t16_0 t17_0 t18_0 t19_0 t20_0 t21_0 t22_0 t23_0 t24_0 t25_0 t26_0 lx134 ((F_Pri_writeSign lx134 t0_0 t0_1 t0_2 t0_3 t6_0 t7_0 t8_0 t8_1 t8_2 t8_3 t8_4 t8_5 t8_6) : (Int32 × Int32 × Int32 × Int32 × Int32 × (Nat → Int64)))
def S_Pri_writeBody_c205 (t0_0 : Int32) (t0_1 : Int32) (t0_2 : Int32) (t0_3 : Int32) (t1_0 : (Nat → Int32)) (t2_0 : (Nat → Int64)) (t3_0 : (Nat → Int32)) (t4_0 : Int32) (t4_1 : Int32) (t5_0 : (Nat → Int32)) (t6_0 : Int32) (t7_0 : (Nat → Int64)) (t8_0 : Int32) (t8_1 : Int32) (t8_2 : Int32) (t8_3 : Int32) (t8_4 : Int32) (t8_5 : Int32) (t8_6 : Int32) (t9_0 : Int32) (t10_0 : (Nat → Int64)) (t11_0 : Int32) (t12_0 : (Nat → Int64)) (t13_0 : Int32) (t14_0 : (Nat → Int64)) (t15_0 : Int32) (t16_0 : (Nat → Int64)) (t17_0 : Int32) (t18_0 : (Nat → Int64)) (t19_0 : Int32) (t20_0 : (Nat → Int64)) (t21_0 : Int32) (t22_0 : (Nat → Int64)) (t23_0 : Int32) (t24_0 : (Nat → Int64)) (t25_0 : Int32) (t26_0 : (Nat → Int64)) (a96 : Int32) (p342 : (Int32 × Int32 × Int32 × Int32 × Int32 × (Nat → Int64))) : Prop := True
def S_Pri_writeBody_c177 (t0_0 : Int32) (t0_1 : Int32) (t0_2 : Int32) (t0_3 : Int32) (t1_0 : (Nat → Int32)) (t2_0 : (Nat → Int64)) (t3_0 : (Nat → Int32)) (t4_0 : Int32) (t4_1 : Int32) (t5_0 : (Nat → Int32)) (t6_0 : Int32) (t7_0 : (Nat → Int64)) (t8_0 : Int32) (t8_1 : Int32) (t8_2 : Int32) (t8_3 : Int32) (t8_4 : Int32) (t8_5 : Int32) (t8_6 : Int32) (t9_0 : Int32) (t10_0 : (Nat → Int64)) (t11_0 : Int32) (t12_0 : (Nat → Int64)) (t13_0 : Int32) (t14_0 : (Nat → Int64)) (t15_0 : Int32) (t16_0 : (Nat → Int64)) (t17_0 : Int32) (t18_0 : (Nat → Int64)) (t19_0 : Int32) (t20_0 : (Nat → Int64)) (t21_0 : Int32) (t22_0 : (Nat → Int64)) (t23_0 : Int32) (t24_0 : (Nat → Int64)) (t25_0 : Int32) (t26_0 : (Nat → Int64)) (a96 : Int32) (p370 : (Int32 × (Nat → Int64))) : Prop := True
def S_Pri_writeBody_c152 (t0_0 : Int32) (t0_1 : Int32) (t0_2 : Int32) (t0_3 : Int32) (t1_0 : (Nat → Int32)) (t2_0 : (Nat → Int64)) (t3_0 : (Nat → Int32)) (t4_0 : Int32) (t4_1 : Int32) (t5_0 : (Nat → Int32)) (t6_0 : Int32) (t7_0 : (Nat → Int64)) (t8_0 : Int32) (t8_1 : Int32) (t8_2 : Int32) (t8_3 : Int32) (t8_4 : Int32) (t8_5 : Int32) (t8_6 : Int32) (t9_0 : Int32) (t10_0 : (Nat → Int64)) (t11_0 : Int32) (t12_0 : (Nat → Int64)) (t13_0 : Int32) (t14_0 : (Nat → Int64)) (t15_0 : Int32) (t16_0 : (Nat → Int64)) (t17_0 : Int32) (t18_0 : (Nat → Int64)) (t19_0 : Int32) (t20_0 : (Nat → Int64)) (t21_0 : Int32) (t22_0 : (Nat → Int64)) (t23_0 : Int32) (t24_0 : (Nat → Int64)) (t25_0 : Int32) (t26_0 : (Nat → Int64)) (a96 : Int32) (p390 : (Int32 × (Nat → Int64))) : Prop := True
def S_Pri_writeBody_c132 (t0_0 : Int32) (t0_1 : Int32) (t0_2 : Int32) (t0_3 : Int32) (t1_0 : (Nat → Int32)) (t2_0 : (Nat → Int64)) (t3_0 : (Nat → Int32)) (t4_0 : Int32) (t4_1 : Int32) (t5_0 : (Nat → Int32)) (t6_0 : Int32) (t7_0 : (Nat → Int64)) (t8_0 : Int32) (t8_1 : Int32) (t8_2 : Int32) (t8_3 : Int32) (t8_4 : Int32) (t8_5 : Int32) (t8_6 : Int32) (t9_0 : Int32) (t10_0 : (Nat → Int64)) (t11_0 : Int32) (t12_0 : (Nat → Int64)) (t13_0 : Int32) (t14_0 : (Nat → Int64)) (t15_0 : Int32) (t16_0 : (Nat → Int64)) (t17_0 : Int32) (t18_0 : (Nat → Int64)) (t19_0 : Int32) (t20_0 : (Nat → Int64)) (t21_0 : Int32) (t22_0 : (Nat → Int64)) (t23_0 : Int32) (t24_0 : (Nat → Int64)) (t25_0 : Int32) (t26_0 : (Nat → Int64)) (a96 : Int32) (p423 : (Int32 × Int32 × (Nat → Int32) × Int32 × (Nat → Int64))) : Prop := True
def S_Pri_writeBody_c105 (t0_0 : Int32) (t0_1 : Int32) (t0_2 : Int32) (t0_3 : Int32) (t1_0 : (Nat → Int32)) (t2_0 : (Nat → Int64)) (t3_0 : (Nat → Int32)) (t4_0 : Int32) (t4_1 : Int32) (t5_0 : (Nat → Int32)) (t6_0 : Int32) (t7_0 : (Nat → Int64)) (t8_0 : Int32) (t8_1 : Int32) (t8_2 : Int32) (t8_3 : Int32) (t8_4 : Int32) (t8_5 : Int32) (t8_6 : Int32) (t9_0 : Int32) (t10_0 : (Nat → Int64)) (t11_0 : Int32) (t12_0 : (Nat → Int64)) (t13_0 : Int32) (t14_0 : (Nat → Int64)) (t15_0 : Int32) (t16_0 : (Nat → Int64)) (t17_0 : Int32) (t18_0 : (Nat → Int64)) (t19_0 : Int32) (t20_0 : (Nat → Int64)) (t21_0 : Int32) (t22_0 : (Nat → Int64)) (t23_0 : Int32) (t24_0 : (Nat → Int64)) (t25_0 : Int32) (t26_0 : (Nat → Int64)) (lx445 : Int32) (p493 : (Int32 × (Nat → Int64))) : Prop := True
def S_Pri_writeBody_c105_12 (t0_0 : Int32) (t0_1 : Int32) (t0_2 : Int32) (t0_3 : Int32) (t1_0 : (Nat → Int32)) (t2_0 : (Nat → Int64)) (t3_0 : (Nat → Int32)) (t4_0 : Int32) (t4_1 : Int32) (t5_0 : (Nat → Int32)) (t6_0 : Int32) (t7_0 : (Nat → Int64)) (t8_0 : Int32) (t8_1 : Int32) (t8_2 : Int32) (t8_3 : Int32) (t8_4 : Int32) (t8_5 : Int32) (t8_6 : Int32) (t9_0 : Int32) (t10_0 : (Nat → Int64)) (t11_0 : Int32) (t12_0 : (Nat → Int64)) (t13_0 : Int32) (t14_0 : (Nat → Int64)) (t15_0 : Int32) (t16_0 : (Nat → Int64)) (t17_0 : Int32) (t18_0 : (Nat → Int64)) (t19_0 : Int32) (t20_0 : (Nat → Int64)) (t21_0 : Int32) (t22_0 : (Nat → Int64)) (t23_0 : Int32) (t24_0 : (Nat → Int64)) (t25_0 : Int32) (t26_0 : (Nat → Int64)) (lx445 : Int32) (p522 : (Int32 × (Nat → Int64))) : Prop := True
def S_Pri_writeBody_J89 (t0_0 : Int32) (t0_1 : Int32) (t0_2 : Int32) (t0_3 : Int32) (t1_0 : (Nat → Int32)) (t2_0 : (Nat → Int64)) (t3_0 : (Nat → Int32)) (t4_0 : Int32) (t4_1 : Int32) (t5_0 : (Nat → Int32)) (t6_0 : Int32) (t7_0 : (Nat → Int64)) (t8_0 : Int32) (t8_1 : Int32) (t8_2 : Int32) (t8_3 : Int32) (t8_4 : Int32) (t8_5 : Int32) (t8_6 : Int32) (t9_0 : Int32) (t10_0 : (Nat → Int64)) (t11_0 : Int32) (t12_0 : (Nat → Int64)) (t13_0 : Int32) (t14_0 : (Nat → Int64)) (t15_0 : Int32) (t16_0 : (Nat → Int64)) (t17_0 : Int32) (t18_0 : (Nat → Int64)) (t19_0 : Int32) (t20_0 : (Nat → Int64)) (t21_0 : Int32) (t22_0 : (Nat → Int64)) (t23_0 : Int32) (t24_0 : (Nat → Int64)) (t25_0 : Int32) (t26_0 : (Nat → Int64)) (lx445 : Int32) : Prop := if lx445 = (0 : Int32) then (S_Pri_writeBody_c105 t0_0 t0_1 t0_2 t0_3 t1_0 t2_0 t3_0 t4_0 t4_1 t5_0 t6_0 t7_0 t8_0 t8_1 t8_2 t8_3 t8_4 t8_5 t8_6 t9_0 t10_0 t11_0 t12_0 t13_0 t14_0 t15_0 t16_0 t17_0 t18_0 t19_0 t20_0 t21_0 t22_0 t23_0 t24_0 t25_0 t26_0 lx445 ((F_She_addText_13 (4104 : Int32) (513 : Int32) (1000000 : Int32) t6_0 t7_0) : (Int32 × (Nat → Int64)))) else (S_Pri_writeBody_c105_12 t0_0 t0_1 t0_2 t0_3 t1_0 t2_0 t3_0 t4_0 t4_1 t5_0 t6_0 t7_0 t8_0 t8_1 t8_2 t8_3 t8_4 t8_5 t8_6 t9_0 t10_0 t11_0 t12_0 t13_0 t14_0 t15_0 t16_0 t17_0 t18_0 t19_0 t20_0 t21_0 t22_0 t23_0 t24_0 t25_0 t26_0 lx445 ((F_She_addText_12 (4104 : Int32) (513 : Int32) (1000000 : Int32) t6_0 t7_0) : (Int32 × (Nat → Int64))))
def S_Pri_writeBody_J84 (t0_0 : Int32) (t0_1 : Int32) (t0_2 : Int32) (t0_3 : Int32) (t1_0 : (Nat → Int32)) (t2_0 : (Nat → Int64)) (t3_0 : (Nat → Int32)) (t4_0 : Int32) (t4_1 : Int32) (t5_0 : (Nat → Int32)) (t6_0 : Int32) (t7_0 : (Nat → Int64)) (t8_0 : Int32) (t8_1 : Int32) (t8_2 : Int32) (t8_3 : Int32) (t8_4 : Int32) (t8_5 : Int32) (t8_6 : Int32) (t9_0 : Int32) (t10_0 : (Nat → Int64)) (t11_0 : Int32) (t12_0 : (Nat → Int64)) (t13_0 : Int32) (t14_0 : (Nat → Int64)) (t15_0 : Int32) (t16_0 : (Nat → Int64)) (t17_0 : Int32) (t18_0 : (Nat → Int64)) (t19_0 : Int32) (t20_0 : (Nat → Int64)) (t21_0 : Int32) (t22_0 : (Nat → Int64)) (t23_0 : Int32) (t24_0 : (Nat → Int64)) (t25_0 : Int32) (t26_0 : (Nat → Int64)) : Prop := S_Pri_writeBody_J89 t0_0 t0_1 t0_2 t0_3 t1_0 t2_0 t3_0 t4_0 t4_1 t5_0 t6_0 t7_0 t8_0 t8_1 t8_2 t8_3 t8_4 t8_5 t8_6 t9_0 t10_0 t11_0 t12_0 t13_0 t14_0 t15_0 t16_0 t17_0 t18_0 t19_0 t20_0 t21_0 t22_0 t23_0 t24_0 t25_0 t26_0 1
def S_Pri_writeBody_J88 (t0_0 : Int32) (t0_1 : Int32) (t0_2 : Int32) (t0_3 : Int32) (t1_0 : (Nat → Int32)) (t2_0 : (Nat → Int64)) (t3_0 : (Nat → Int32)) (t4_0 : Int32) (t4_1 : Int32) (t5_0 : (Nat → Int32)) (t6_0 : Int32) (t7_0 : (Nat → Int64)) (t8_0 : Int32) (t8_1 : Int32) (t8_2 : Int32) (t8_3 : Int32) (t8_4 : Int32) (t8_5 : Int32) (t8_6 : Int32) (t9_0 : Int32) (t10_0 : (Nat → Int64)) (t11_0 : Int32) (t12_0 : (Nat → Int64)) (t13_0 : Int32) (t14_0 : (Nat → Int64)) (t15_0 : Int32) (t16_0 : (Nat → Int64)) (t17_0 : Int32) (t18_0 : (Nat → Int64)) (t19_0 : Int32) (t20_0 : (Nat → Int64)) (t21_0 : Int32) (t22_0 : (Nat → Int64)) (t23_0 : Int32) (t24_0 : (Nat → Int64)) (t25_0 : Int32) (t26_0 : (Nat → Int64)) : Prop := S_Pri_writeBody_J89 t0_0 t0_1 t0_2 t0_3 t1_0 t2_0 t3_0 t4_0 t4_1 t5_0 t6_0 t7_0 t8_0 t8_1 t8_2 t8_3 t8_4 t8_5 t8_6 t9_0 t10_0 t11_0 t12_0 t13_0 t14_0 t15_0 t16_0 t17_0 t18_0 t19_0 t20_0 t21_0 t22_0 t23_0 t24_0 t25_0 t26_0 0
def S_Pri_writeBody_c35 (t0_0 : Int32) (t0_1 : Int32) (t0_2 : Int32) (t0_3 : Int32) (t1_0 : (Nat → Int32)) (t2_0 : (Nat → Int64)) (t3_0 : (Nat → Int32)) (t4_0 : Int32) (t4_1 : Int32) (t5_0 : (Nat → Int32)) (t6_0 : Int32) (t7_0 : (Nat → Int64)) (t8_0 : Int32) (t8_1 : Int32) (t8_2 : Int32) (t8_3 : Int32) (t8_4 : Int32) (t8_5 : Int32) (t8_6 : Int32) (t9_0 : Int32) (t10_0 : (Nat → Int64)) (t11_0 : Int32) (t12_0 : (Nat → Int64)) (t13_0 : Int32) (t14_0 : (Nat → Int64)) (t15_0 : Int32) (t16_0 : (Nat → Int64)) (t17_0 : Int32) (t18_0 : (Nat → Int64)) (t19_0 : Int32) (t20_0 : (Nat → Int64)) (t21_0 : Int32) (t22_0 : (Nat → Int64)) (t23_0 : Int32) (t24_0 : (Nat → Int64)) (t25_0 : Int32) (t26_0 : (Nat → Int64)) (p633 : (Int32 × (Nat → Int64))) : Prop := True
def S_Pri_writeBody_c35_16 (t0_0 : Int32) (t0_1 : Int32) (t0_2 : Int32) (t0_3 : Int32) (t1_0 : (Nat → Int32)) (t2_0 : (Nat → Int64)) (t3_0 : (Nat → Int32)) (t4_0 : Int32) (t4_1 : Int32) (t5_0 : (Nat → Int32)) (t6_0 : Int32) (t7_0 : (Nat → Int64)) (t8_0 : Int32) (t8_1 : Int32) (t8_2 : Int32) (t8_3 : Int32) (t8_4 : Int32) (t8_5 : Int32) (t8_6 : Int32) (t9_0 : Int32) (t10_0 : (Nat → Int64)) (t11_0 : Int32) (t12_0 : (Nat → Int64)) (t13_0 : Int32) (t14_0 : (Nat → Int64)) (t15_0 : Int32) (t16_0 : (Nat → Int64)) (t17_0 : Int32) (t18_0 : (Nat → Int64)) (t19_0 : Int32) (t20_0 : (Nat → Int64)) (t21_0 : Int32) (t22_0 : (Nat → Int64)) (t23_0 : Int32) (t24_0 : (Nat → Int64)) (t25_0 : Int32) (t26_0 : (Nat → Int64)) (p653 : (Int32 × (Nat → Int64))) : Prop := True
def S_Pri_writeBody (t0_0 : Int32) (t0_1 : Int32) (t0_2 : Int32) (t0_3 : Int32) (t1_0 : (Nat → Int32)) (t2_0 : (Nat → Int64)) (t3_0 : (Nat → Int32)) (t4_0 : Int32) (t4_1 : Int32) (t5_0 : (Nat → Int32)) (t6_0 : Int32) (t7_0 : (Nat → Int64)) (t8_0 : Int32) (t8_1 : Int32) (t8_2 : Int32) (t8_3 : Int32) (t8_4 : Int32) (t8_5 : Int32) (t8_6 : Int32) (t9_0 : Int32) (t10_0 : (Nat → Int64)) (t11_0 : Int32) (t12_0 : (Nat → Int64)) (t13_0 : Int32) (t14_0 : (Nat → Int64)) (t15_0 : Int32) (t16_0 : (Nat → Int64)) (t17_0 : Int32) (t18_0 : (Nat → Int64)) (t19_0 : Int32) (t20_0 : (Nat → Int64)) (t21_0 : Int32) (t22_0 : (Nat → Int64)) (t23_0 : Int32) (t24_0 : (Nat → Int64)) (t25_0 : Int32) (t26_0 : (Nat → Int64)) : Prop := if ((F_Dir_isOneOf_7 t8_0 t8_1 t8_2 t8_3 t8_4 t8_5 t8_6) : Int32) = (0 : Int32) then ((0 ≤ t0_3.toInt) ∧ (if ((F_Dir_isOneOf_11 t8_0 t8_1 t8_2 t8_3 t8_4 t8_5 t8_6) : Int32) = (0 : Int32) then (if ((F_Dir_isOneOf_14 t8_0 t8_1 t8_2 t8_3 t8_4 t8_5 t8_6) : Int32) = (0 : Int32) then (if (t1_0 t0_3.toNatClampNeg : Int32) = (0 : Int32) then (S_Pri_writeBody_c152 t0_0 t0_1 t0_2 t0_3 t1_0 t2_0 t3_0 t4_0 t4_1 t5_0 t6_0 t7_0 t8_0 t8_1 t8_2 t8_3 t8_4 t8_5 t8_6 t9_0 t10_0 t11_0 t12_0 t13_0 t14_0 t15_0 t16_0 t17_0 t18_0 t19_0 t20_0 t21_0 t22_0 t23_0 t24_0 t25_0 t26_0 (t1_0 t0_3.toNatClampNeg : Int32) ((F_She_addText_15 (4104 : Int32) (513 : Int32) (1000000 : Int32) t6_0 t7_0) : (Int32 × (Nat → Int64)))) else (if (t1_0 t0_3.toNatClampNeg : Int32) = (2 : Int32) then (S_Pri_writeBody_c177 t0_0 t0_1 t0_2 t0_3 t1_0 t2_0 t3_0 t4_0 t4_1 t5_0 t6_0 t7_0 t8_0 t8_1 t8_2 t8_3 t8_4 t8_5 t8_6 t9_0 t10_0 t11_0 t12_0 t13_0 t14_0 t15_0 t16_0 t17_0 t18_0 t19_0 t20_0 t21_0 t22_0 t23_0 t24_0 t25_0 t26_0 (t1_0 t0_3.toNatClampNeg : Int32) ((F_She_add_p (4104 : Int32) (513 : Int32) (1000000 : Int32) ((t2_0 t0_3.toNatClampNeg : Int64).toInt32 : Int32) t6_0 t7_0) : (Int32 × (Nat → Int64)))) else (if ((F_Dir_isOneOf_16 t8_0 t8_1 t8_2 t8_3 t8_4 t8_5 t8_6) : Int32) = (0 : Int32) then (if (0 : Int32) ≤ (lg_cmp (t2_0 t0_3.toNatClampNeg : Int64) 0 : Int32) then (S_Pri_writeBody_J231 t0_0 t0_1 t0_2 t0_3 t1_0 t2_0 t3_0 t4_0 t4_1 t5_0 t6_0 t7_0 t8_0 t8_1 t8_2 t8_3 t8_4 t8_5 t8_6 t9_0 t10_0 t11_0 t12_0 t13_0 t14_0 t15_0 t16_0 t17_0 t18_0 t19_0 t20_0 t21_0 t22_0 t23_0 t24_0 t25_0 t26_0 0) else (S_Pri_writeBody_J231 t0_0 t0_1 t0_2 t0_3 t1_0 t2_0 t3_0 t4_0 t4_1 t5_0 t6_0 t7_0 t8_0 t8_1 t8_2 t8_3 t8_4 t8_5 t8_6 t9_0 t10_0 t11_0 t12_0 t13_0 t14_0 t15_0 t16_0 t17_0 t18_0 t19_0 t20_0 t21_0 t22_0 t23_0 t24_0 t25_0 t26_0 1)) else (S_Pri_writeBody_c205 t0_0 t0_1 t0_2 t0_3 t1_0 t2_0 t3_0 t4_0 t4_1 t5_0 t6_0 t7_0 t8_0 t8_1 t8_2 t8_3 t8_4 t8_5 t8_6 t9_0 t10_0 t11_0 t12_0 t13_0 t14_0 t15_0 t16_0 t17_0 t18_0 t19_0 t20_0 t21_0 t22_0 t23_0 t24_0 t25_0 t26_0 (t1_0 t0_3.toNatClampNeg : Int32) ((F_Pri_writeToBase (t2_0 t0_3.toNatClampNeg : Int64) t0_0 t0_1 t0_2 t0_3 t6_0 t7_0 t8_0 t8_1 t8_2 t8_3 t8_4 t8_5 t8_6) : (Int32 × Int32 × Int32 × Int32 × Int32 × (Nat → Int64))))))) else (S_Pri_writeBody_c132 t0_0 t0_1 t0_2 t0_3 t1_0 t2_0 t3_0 t4_0 t4_1 t5_0 t6_0 t7_0 t8_0 t8_1 t8_2 t8_3 t8_4 t8_5 t8_6 t9_0 t10_0 t11_0 t12_0 t13_0 t14_0 t15_0 t16_0 t17_0 t18_0 t19_0 t20_0 t21_0 t22_0 t23_0 t24_0 t25_0 t26_0 (t1_0 t0_3.toNatClampNeg : Int32) ((F_Pri_writeAnything t0_3 t0_0 t0_1 t0_2 t0_3 t1_0 t2_0 t3_0 t4_0 t4_1 t5_0 t6_0 t7_0 t9_0 t10_0 t11_0 t12_0 t13_0 t14_0 t15_0 t16_0 t17_0 t18_0 t19_0 t20_0 t21_0 t22_0 t23_0 t24_0 t25_0 t26_0) : (Int32 × Int32 × (Nat → Int32) × Int32 × (Nat → Int64))))) else (if (t1_0 t0_3.toNatClampNeg : Int32) = (0 : Int32) then (S_Pri_writeBody_J84 t0_0 t0_1 t0_2 t0_3 t1_0 t2_0 t3_0 t4_0 t4_1 t5_0 t6_0 t7_0 t8_0 t8_1 t8_2 t8_3 t8_4 t8_5 t8_6 t9_0 t10_0 t11_0 t12_0 t13_0 t14_0 t15_0 t16_0 t17_0 t18_0 t19_0 t20_0 t21_0 t22_0 t23_0 t24_0 t25_0 t26_0) else (if (t1_0 t0_3.toNatClampNeg : Int32) = (1 : Int32) then (if (lg_cmp (t2_0 t0_3.toNatClampNeg : Int64) 0 : Int32) = (0 : Int32) then (S_Pri_writeBody_J84 t0_0 t0_1 t0_2 t0_3 t1_0 t2_0 t3_0 t4_0 t4_1 t5_0 t6_0 t7_0 t8_0 t8_1 t8_2 t8_3 t8_4 t8_5 t8_6 t9_0 t10_0 t11_0 t12_0 t13_0 t14_0 t15_0 t16_0 t17_0 t18_0 t19_0 t20_0 t21_0 t22_0 t23_0 t24_0 t25_0 t26_0) else (S_Pri_writeBody_J88 t0_0 t0_1 t0_2 t0_3 t1_0 t2_0 t3_0 t4_0 t4_1 t5_0 t6_0 t7_0 t8_0 t8_1 t8_2 t8_3 t8_4 t8_5 t8_6 t9_0 t10_0 t11_0 t12_0 t13_0 t14_0 t15_0 t16_0 t17_0 t18_0 t19_0 t20_0 t21_0 t22_0 t23_0 t24_0 t25_0 t26_0)) else (S_Pri_writeBody_J88 t0_0 t0_1 t0_2 t0_3 t1_0 t2_0 t3_0 t4_0 t4_1 t5_0 t6_0 t7_0 t8_0 t8_1 t8_2 t8_3 t8_4 t8_5 t8_6 t9_0 t10_0 t11_0 t12_0 t13_0 t14_0 t15_0 t16_0 t17_0 t18_0 t19_0 t20_0 t21_0 t22_0 t23_0 t24_0 t25_0 t26_0))))) else (if t8_4 = (110 : Int32) then (S_Pri_writeBody_c35_16 t0_0 t0_1 t0_2 t0_3 t1_0 t2_0 t3_0 t4_0 t4_1 t5_0 t6_0 t7_0 t8_0 t8_1 t8_2 t8_3 t8_4 t8_5 t8_6 t9_0 t10_0 t11_0 t12_0 t13_0 t14_0 t15_0 t16_0 t17_0 t18_0 t19_0 t20_0 t21_0 t22_0 t23_0 t24_0 t25_0 t26_0 ((F_She_add_p (4104 : Int32) (513 : Int32) (1000000 : Int32) (10 : Int32) t6_0 t7_0) : (Int32 × (Nat → Int64)))) else (S_Pri_writeBody_c35 t0_0 t0_1 t0_2 t0_3 t1_0 t2_0 t3_0 t4_0 t4_1 t5_0 t6_0 t7_0 t8_0 t8_1 t8_2 t8_3 t8_4 t8_5 t8_6 t9_0 t10_0 t11_0 t12_0 t13_0 t14_0 t15_0 t16_0 t17_0 t18_0 t19_0 t20_0 t21_0 t22_0 t23_0 t24_0 t25_0 t26_0 ((F_She_add_p (4104 : Int32) (513 : Int32) (1000000 : Int32) (37 : Int32) t6_0 t7_0) : (Int32 × (Nat → Int64)))))
set_option maxRecDepth 100000 in
set_option maxHeartbeats 4000000 in
theorem X_Pri_writeBody (l : Launch) (D : va_G) (g : Nat → ClassId) (q : Nat → Nat) (ws : va_W) (hI : q_I (nsh g q) q ws) (t0_0 : Int32) (t0_1 : Int32) (t0_2 : Int32) (t0_3 : Int32) (hT0 : ws[40]? = (some (q 40, .inr (11, [.int t0_0, .ref (q 41), .ref (q 42), .ref (q 43), .ref (q 44), .ref (q 1), .ref (q 47), .ref (q 36), .ref (q 45), .int t0_1, .int t0_2, .int t0_3])) : Option (Nat × va_E))) (t1_0 : (Nat → Int32)) (hT1 : ws[41]? = (some (q 41, .inl (g 0, 9, .inl t1_0)) : Option (Nat × va_E))) (t2_0 : (Nat → Int64)) (hT2 : ws[42]? = (some (q 42, .inl (g 1, 9, .inr (.inl t2_0))) : Option (Nat × va_E))) (t3_0 : (Nat → Int32)) (hT3 : ws[43]? = (some (q 43, .inl (g 0, 9, .inl t3_0)) : Option (Nat × va_E))) (t4_0 : Int32) (t4_1 : Int32) (hT4 : ws[36]? = (some (q 36, .inr (7, [.int t4_0, .int t4_1, .ref (q 37)])) : Option (Nat × va_E))) (t5_0 : (Nat → Int32)) (hT5 : ws[37]? = (some (q 37, .inl (g 2, 1026, .inl t5_0)) : Option (Nat × va_E))) (t6_0 : Int32) (hT6 : ws[45]? = (some (q 45, .inr (1, [.ref (q 46), .int 4104, .int t6_0])) : Option (Nat × va_E))) (t7_0 : (Nat → Int64)) (hT7 : ws[46]? = (some (q 46, .inl (g 1, (513 : Int32).toNatClampNeg, .inr (.inl t7_0))) : Option (Nat × va_E))) (t8_0 : Int32) (t8_1 : Int32) (t8_2 : Int32) (t8_3 : Int32) (t8_4 : Int32) (t8_5 : Int32) (t8_6 : Int32) (hT8 : ws[47]? = (some (q 47, .inr (10, [.int t8_0, .int t8_1, .int t8_2, .int t8_3, .int t8_4, .int t8_5, .ref (q 1), .int t8_6])) : Option (Nat × va_E))) (t9_0 : Int32) (hT9 : ws[48]? = (some (q 48, .inr (1, [.ref (q 49), .int 64, .int t9_0])) : Option (Nat × va_E))) (t10_0 : (Nat → Int64)) (hT10 : ws[49]? = (some (q 49, .inl (g 1, (8 : Int32).toNatClampNeg, .inr (.inl t10_0))) : Option (Nat × va_E))) (t11_0 : Int32) (hT11 : ws[50]? = (some (q 50, .inr (1, [.ref (q 51), .int 64, .int t11_0])) : Option (Nat × va_E))) (t12_0 : (Nat → Int64)) (hT12 : ws[51]? = (some (q 51, .inl (g 1, (8 : Int32).toNatClampNeg, .inr (.inl t12_0))) : Option (Nat × va_E))) (t13_0 : Int32) (hT13 : ws[52]? = (some (q 52, .inr (1, [.ref (q 53), .int 64, .int t13_0])) : Option (Nat × va_E))) (t14_0 : (Nat → Int64)) (hT14 : ws[53]? = (some (q 53, .inl (g 1, (8 : Int32).toNatClampNeg, .inr (.inl t14_0))) : Option (Nat × va_E))) (t15_0 : Int32) (hT15 : ws[54]? = (some (q 54, .inr (1, [.ref (q 55), .int 64, .int t15_0])) : Option (Nat × va_E))) (t16_0 : (Nat → Int64)) (hT16 : ws[55]? = (some (q 55, .inl (g 1, (8 : Int32).toNatClampNeg, .inr (.inl t16_0))) : Option (Nat × va_E))) (t17_0 : Int32) (hT17 : ws[56]? = (some (q 56, .inr (1, [.ref (q 57), .int 64, .int t17_0])) : Option (Nat × va_E))) (t18_0 : (Nat → Int64)) (hT18 : ws[57]? = (some (q 57, .inl (g 1, (8 : Int32).toNatClampNeg, .inr (.inl t18_0))) : Option (Nat × va_E))) (t19_0 : Int32) (hT19 : ws[58]? = (some (q 58, .inr (1, [.ref (q 59), .int 64, .int t19_0])) : Option (Nat × va_E))) (t20_0 : (Nat → Int64)) (hT20 : ws[59]? = (some (q 59, .inl (g 1, (8 : Int32).toNatClampNeg, .inr (.inl t20_0))) : Option (Nat × va_E))) (t21_0 : Int32) (hT21 : ws[60]? = (some (q 60, .inr (1, [.ref (q 61), .int 64, .int t21_0])) : Option (Nat × va_E))) (t22_0 : (Nat → Int64)) (hT22 : ws[61]? = (some (q 61, .inl (g 1, (8 : Int32).toNatClampNeg, .inr (.inl t22_0))) : Option (Nat × va_E))) (t23_0 : Int32) (hT23 : ws[62]? = (some (q 62, .inr (1, [.ref (q 63), .int 64, .int t23_0])) : Option (Nat × va_E))) (t24_0 : (Nat → Int64)) (hT24 : ws[63]? = (some (q 63, .inl (g 1, (8 : Int32).toNatClampNeg, .inr (.inl t24_0))) : Option (Nat × va_E))) (t25_0 : Int32) (hT25 : ws[64]? = (some (q 64, .inr (1, [.ref (q 65), .int 64, .int t25_0])) : Option (Nat × va_E))) (t26_0 : (Nat → Int64)) (hT26 : ws[65]? = (some (q 65, .inl (g 1, (8 : Int32).toNatClampNeg, .inr (.inl t26_0))) : Option (Nat × va_E))) (pre0 : t6_0.toInt ≤ 0) (hS : True ∧ S_Pri_writeBody t0_0 t0_1 t0_2 t0_3 t1_0 t2_0 t3_0 t4_0 t4_1 t5_0 t6_0 t7_0 t8_0 t8_1 t8_2 t8_3 t8_4 t8_5 t8_6 t9_0 t10_0 t11_0 t12_0 t13_0 t14_0 t15_0 t16_0 t17_0 t18_0 t19_0 t20_0 t21_0 t22_0 t23_0 t24_0 t25_0 t26_0) : q_mV l y_Pri_writeBody prog_9_method_9_code 3 7 0 0 D g [.ref (q 40)] ws (fun u => q_I (nsh g q) q u ∧ q_un ws u [36, 37, 40, 45, 46] ∧ ∃ (u0_0 : Int32) (u0_1 : Int32) (u0_2 : Int32) (u0_3 : Int32) (u4_0 : Int32) (u4_1 : Int32) (u5_0 : (Nat → Int32)) (u6_0 : Int32) (u7_0 : (Nat → Int64)), u[40]? = (some (q 40, .inr (11, [.int u0_0, .ref (q 41), .ref (q 42), .ref (q 43), .ref (q 44), .ref (q 1), .ref (q 47), .ref (q 36), .ref (q 45), .int u0_1, .int u0_2, .int u0_3])) : Option (Nat × va_E)) ∧ u[36]? = (some (q 36, .inr (7, [.int u4_0, .int u4_1, .ref (q 37)])) : Option (Nat × va_E)) ∧ u[37]? = (some (q 37, .inl (g 2, 1026, .inl u5_0)) : Option (Nat × va_E)) ∧ u[45]? = (some (q 45, .inr (1, [.ref (q 46), .int 4104, .int u6_0])) : Option (Nat × va_E)) ∧ u[46]? = (some (q 46, .inl (g 1, (513 : Int32).toNatClampNeg, .inr (.inl u7_0))) : Option (Nat × va_E)) ∧ (t0_0.toInt ≤ u0_0.toInt) ∧ (u0_0.toInt ≤ t0_0.toInt) ∧ (t0_1.toInt ≤ u0_1.toInt + 1000000) ∧ (u0_1.toInt ≤ t0_1.toInt + 3) ∧ (t6_0.toInt ≤ u0_1.toInt + 1) ∧ (u0_1.toInt ≤ t6_0.toInt + 1000000) ∧ (t0_2.toInt ≤ u0_2.toInt) ∧ (u0_2.toInt ≤ t0_2.toInt) ∧ (t0_3.toInt ≤ u0_3.toInt) ∧ (u0_3.toInt ≤ t0_3.toInt) ∧ (u4_0.toInt ≤ t4_0.toInt + 21) ∧ (t6_0.toInt ≤ u4_0.toInt) ∧ (u4_0.toInt ≤ t6_0.toInt + 1026) ∧ (t4_1.toInt ≤ u4_1.toInt + 1020000) ∧ (u4_1.toInt ≤ t4_1.toInt + 1100001) ∧ (t6_0.toInt ≤ u4_1.toInt + 1000000) ∧ (u4_1.toInt ≤ t6_0.toInt + 1000000) ∧ (t6_0.toInt ≤ u6_0.toInt) ∧ (u6_0.toInt ≤ t6_0.toInt + 420005) ∧ (u6_0.toInt ≤ u0_1.toInt + 420005) ∧ (u0_0, u0_1, u0_2, u0_3, u4_0, u4_1, u5_0, u6_0, u7_0) = (F_Pri_writeBody t0_0 t0_1 t0_2 t0_3 t1_0 t2_0 t3_0 t4_0 t4_1 t5_0 t6_0 t7_0 t8_0 t8_1 t8_2 t8_3 t8_4 t8_5 t8_6 t9_0 t10_0 t11_0 t12_0 t13_0 t14_0 t15_0 t16_0 t17_0 t18_0 t19_0 t20_0 t21_0 t22_0 t23_0 t24_0 t25_0 t26_0)) := by
  intro sz
  refine q_into (by decide) (Nat.le_of_ble_eq_true rfl) ?_
  intro p e s m below meth c ls hsz C0 V hl
  have hx := C0.1
  have hb := C0.2.1
  obtain ⟨yy0_0, yy0_1, yy0_2, yy0_3, hh0, btt0_0, btt0_1, btt0_3⟩ := n_o40 hI
  obtain ⟨rfl, rfl, rfl, rfl⟩ : t0_0 = yy0_0 ∧ t0_1 = yy0_1 ∧ t0_2 = yy0_2 ∧ t0_3 = yy0_3 := by have z := Option.some.inj (hT0.symm.trans hh0); simpa using z
  replace btt0_0 : q_F (0 ≤ t0_0.toInt ∧ t0_0.toInt ≤ 9) := btt0_0
  replace btt0_1 : q_F (-1 ≤ t0_1.toInt ∧ t0_1.toInt ≤ 1000000) := btt0_1
  replace btt0_3 : q_F (-1 ≤ t0_3.toInt ∧ t0_3.toInt ≤ 8) := btt0_3
  obtain ⟨yy4_0, yy4_1, hh4, btt4_0, btt4_1⟩ := n_o36 hI
  obtain ⟨rfl, rfl⟩ : t4_0 = yy4_0 ∧ t4_1 = yy4_1 := by have z := Option.some.inj (hT4.symm.trans hh4); simpa using z
  replace btt4_0 : q_F (0 ≤ t4_0.toInt ∧ t4_0.toInt ≤ 1026) := btt4_0
  replace btt4_1 : q_F (-1000000 ≤ t4_1.toInt ∧ t4_1.toInt ≤ 1000000) := btt4_1
  obtain ⟨yy6_0, hh6, btt6_0⟩ := n_shO hI (n_h45 g q)
  obtain ⟨rfl⟩ : t6_0 = yy6_0 := by have z := Option.some.inj (hT6.symm.trans hh6); simpa using z
  replace btt6_0 : q_F (0 ≤ t6_0.toInt ∧ t6_0.toInt ≤ 1000000) := btt6_0
  obtain ⟨yy8_0, yy8_1, yy8_2, yy8_3, yy8_4, yy8_5, yy8_6, hh8, btt8_2, btt8_3, btt8_6⟩ := n_o47 hI
  obtain ⟨rfl, rfl, rfl, rfl, rfl, rfl, rfl⟩ : t8_0 = yy8_0 ∧ t8_1 = yy8_1 ∧ t8_2 = yy8_2 ∧ t8_3 = yy8_3 ∧ t8_4 = yy8_4 ∧ t8_5 = yy8_5 ∧ t8_6 = yy8_6 := by have z := Option.some.inj (hT8.symm.trans hh8); simpa using z
  replace btt8_2 : q_F (-1 ≤ t8_2.toInt ∧ t8_2.toInt ≤ 9999) := btt8_2
  replace btt8_3 : q_F (-1 ≤ t8_3.toInt ∧ t8_3.toInt ≤ 9999) := btt8_3
  replace btt8_6 : q_F (0 ≤ t8_6.toInt ∧ t8_6.toInt ≤ 1) := btt8_6
  obtain ⟨yy9_0, hh9, btt9_0⟩ := n_shO hI (n_h48 g q)
  obtain ⟨rfl⟩ : t9_0 = yy9_0 := by have z := Option.some.inj (hT9.symm.trans hh9); simpa using z
  replace btt9_0 : q_F (0 ≤ t9_0.toInt ∧ t9_0.toInt ≤ 64) := btt9_0
  obtain ⟨yy11_0, hh11, btt11_0⟩ := n_shO hI (n_h50 g q)
  obtain ⟨rfl⟩ : t11_0 = yy11_0 := by have z := Option.some.inj (hT11.symm.trans hh11); simpa using z
  replace btt11_0 : q_F (0 ≤ t11_0.toInt ∧ t11_0.toInt ≤ 64) := btt11_0
  obtain ⟨yy13_0, hh13, btt13_0⟩ := n_shO hI (n_h52 g q)
  obtain ⟨rfl⟩ : t13_0 = yy13_0 := by have z := Option.some.inj (hT13.symm.trans hh13); simpa using z
  replace btt13_0 : q_F (0 ≤ t13_0.toInt ∧ t13_0.toInt ≤ 64) := btt13_0
  obtain ⟨yy15_0, hh15, btt15_0⟩ := n_shO hI (n_h54 g q)
  obtain ⟨rfl⟩ : t15_0 = yy15_0 := by have z := Option.some.inj (hT15.symm.trans hh15); simpa using z
  replace btt15_0 : q_F (0 ≤ t15_0.toInt ∧ t15_0.toInt ≤ 64) := btt15_0
  obtain ⟨yy17_0, hh17, btt17_0⟩ := n_shO hI (n_h56 g q)
  obtain ⟨rfl⟩ : t17_0 = yy17_0 := by have z := Option.some.inj (hT17.symm.trans hh17); simpa using z
  replace btt17_0 : q_F (0 ≤ t17_0.toInt ∧ t17_0.toInt ≤ 64) := btt17_0
  obtain ⟨yy19_0, hh19, btt19_0⟩ := n_shO hI (n_h58 g q)
  obtain ⟨rfl⟩ : t19_0 = yy19_0 := by have z := Option.some.inj (hT19.symm.trans hh19); simpa using z
  replace btt19_0 : q_F (0 ≤ t19_0.toInt ∧ t19_0.toInt ≤ 64) := btt19_0
  obtain ⟨yy21_0, hh21, btt21_0⟩ := n_shO hI (n_h60 g q)
  obtain ⟨rfl⟩ : t21_0 = yy21_0 := by have z := Option.some.inj (hT21.symm.trans hh21); simpa using z
  replace btt21_0 : q_F (0 ≤ t21_0.toInt ∧ t21_0.toInt ≤ 64) := btt21_0
  obtain ⟨yy23_0, hh23, btt23_0⟩ := n_shO hI (n_h62 g q)
  obtain ⟨rfl⟩ : t23_0 = yy23_0 := by have z := Option.some.inj (hT23.symm.trans hh23); simpa using z
  replace btt23_0 : q_F (0 ≤ t23_0.toInt ∧ t23_0.toInt ≤ 64) := btt23_0
  obtain ⟨yy25_0, hh25, btt25_0⟩ := n_shO hI (n_h64 g q)
  obtain ⟨rfl⟩ : t25_0 = yy25_0 := by have z := Option.some.inj (hT25.symm.trans hh25); simpa using z
  replace btt25_0 : q_F (0 ≤ t25_0.toInt ∧ t25_0.toInt ≤ 64) := btt25_0
  replace pre0 : q_F (t6_0.toInt ≤ 0) := pre0
  have hF : q_un ws ws [36, 37, 40, 45, 46] := q_u0
  have hl : lv_has ls 3 [(0, .ref (q 40))] := hl
  refine lv_aload_n hx hb d_9_9_0 rfl (lv_at hl 0 rfl) ?_
  refine q_get (ci := 11) (j := 6) (v := .ref (q 47)) C0 V i_Pri rfl rfl hT0 (by decide) w_391 rfl d_9_9_1 ?_
  refine q_ldcs (i := 7) C0 V rfl rfl d_9_9_4 ?_
  refine q_goi V (q_runV (As := [.ref (g (8 + 2 * 7))]) (rest := []) (d := 5) (mc := 0) (ms := 0) (ci := 10) C0 V rfl LV_Pri_133 (X_Dir_isOneOf_7 l D g q ws   hI t8_0 t8_1 t8_2 t8_3 t8_4 t8_5 t8_6 hT8  _) rfl rfl hT8 rfl hl.1 rfl (Nat.le_of_ble_eq_true rfl) ⟨by decide, by decide⟩ ⟨Nat.le_of_ble_eq_true rfl, Nat.le_of_ble_eq_true rfl⟩ d_9_9_6) (fun a88 u86 H locs hp87 V => ?_)
  obtain ⟨rfl, b89, b90, hE91⟩ := hp87
  have e92 : a88 = (F_Dir_isOneOf_7 t8_0 t8_1 t8_2 t8_3 t8_4 t8_5 t8_6) := hE91
  replace b89 : q_F (0 ≤ a88.toInt) := b89
  replace b90 : q_F (a88.toInt ≤ 1) := b90
  refine lv_if_eq (tgt := 39) hx hb d_9_9_9 (by decide) (fun c93 => ?_) (fun c93 => ?_)
  ·
    have b94 : q_F (a88.toInt = 0) := (q_eqI c93)
    refine lv_aload_n hx hb d_9_9_39 rfl (lv_at hl 0 rfl) ?_
    refine q_get (ci := 11) (j := 1) (v := .ref (q 41)) C0 V i_Pri rfl rfl hT0 (by decide) w_386 rfl d_9_9_40 ?_
    refine lv_aload_n hx hb d_9_9_43 rfl (lv_at hl 0 rfl) ?_
    refine q_get (ci := 11) (j := 11) (v := .int t0_3) C0 V i_Pri rfl rfl hT0 (by decide) w_396 rfl d_9_9_44 ?_
    have ob95 : q_F (0 ≤ t0_3.toInt) := (by have h := hS; rw [S_Pri_writeBody.eq_1] at h; have c93x := c93; rw [e92] at c93x; rw [if_pos c93x] at h; exact h.2.1)
    refine q_iald C0 V hT1 (q_ix (x := t0_3.toInt) rfl (by have t1 : 0 ≤ t0_3.toInt := ob95; omega) (by have t1 : 0 ≤ t0_3.toInt := ob95; have t2 : -1 ≤ t0_3.toInt ∧ t0_3.toInt ≤ 8 := btt0_3; omega)) d_9_9_47 ?_
    obtain ⟨a96, e97⟩ := q_nm (t1_0 t0_3.toNatClampNeg : Int32)
    refine q_ti (v := a96) e97 ?_
    refine lv_istore_n (lv' := [(1, .int a96), (0, .ref (q 40))]) hx hb d_9_9_48 rfl hl (by decide) rfl (fun ls hl => ?_)
    refine lv_aload_n hx hb d_9_9_49 rfl (lv_at hl 1 rfl) ?_
    refine q_get (ci := 11) (j := 6) (v := .ref (q 47)) C0 V i_Pri rfl rfl hT0 (by decide) w_391 rfl d_9_9_50 ?_
    refine q_ldcs (i := 11) C0 V rfl rfl d_9_9_53 ?_
    refine q_goi V (q_runV (As := [.ref (g (8 + 2 * 11))]) (rest := []) (d := 5) (mc := 0) (ms := 0) (ci := 10) C0 V rfl LV_Pri_133 (X_Dir_isOneOf_11 l D g q ws   hI t8_0 t8_1 t8_2 t8_3 t8_4 t8_5 t8_6 hT8  _) rfl rfl hT8 rfl hl.1 rfl (Nat.le_of_ble_eq_true rfl) ⟨by decide, by decide⟩ ⟨Nat.le_of_ble_eq_true rfl, Nat.le_of_ble_eq_true rfl⟩ d_9_9_55) (fun a100 u98 H locs hp99 V => ?_)
    obtain ⟨rfl, b101, b102, hE103⟩ := hp99
    have e104 : a100 = (F_Dir_isOneOf_11 t8_0 t8_1 t8_2 t8_3 t8_4 t8_5 t8_6) := hE103
    replace b101 : q_F (0 ≤ a100.toInt) := b101
    replace b102 : q_F (a100.toInt ≤ 1) := b102
    refine lv_if_eq (tgt := 115) hx hb d_9_9_58 (by decide) (fun c105 => ?_) (fun c105 => ?_)
    ·
      have b106 : q_F (a100.toInt = 0) := (q_eqI c105)
      refine lv_aload_n hx hb d_9_9_115 rfl (lv_at hl 1 rfl) ?_
      refine q_get (ci := 11) (j := 6) (v := .ref (q 47)) C0 V i_Pri rfl rfl hT0 (by decide) w_391 rfl d_9_9_116 ?_
      refine q_ldcs (i := 14) C0 V rfl rfl d_9_9_119 ?_
      refine q_goi V (q_runV (As := [.ref (g (8 + 2 * 14))]) (rest := []) (d := 5) (mc := 0) (ms := 0) (ci := 10) C0 V rfl LV_Pri_133 (X_Dir_isOneOf_14 l D g q ws   hI t8_0 t8_1 t8_2 t8_3 t8_4 t8_5 t8_6 hT8  _) rfl rfl hT8 rfl hl.1 rfl (Nat.le_of_ble_eq_true rfl) ⟨by decide, by decide⟩ ⟨Nat.le_of_ble_eq_true rfl, Nat.le_of_ble_eq_true rfl⟩ d_9_9_121) (fun a109 u107 H locs hp108 V => ?_)
      obtain ⟨rfl, b110, b111, hE112⟩ := hp108
      have e113 : a109 = (F_Dir_isOneOf_14 t8_0 t8_1 t8_2 t8_3 t8_4 t8_5 t8_6) := hE112
      replace b110 : q_F (0 ≤ a109.toInt) := b110
      replace b111 : q_F (a109.toInt ≤ 1) := b111
      refine lv_if_eq (tgt := 142) hx hb d_9_9_124 (by decide) (fun c114 => ?_) (fun c114 => ?_)
      ·
        have b115 : q_F (a109.toInt = 0) := (q_eqI c114)
        refine lv_iload_n hx hb d_9_9_142 rfl (lv_at hl 0 rfl) ?_
        refine lv_if_ne (tgt := 158) hx hb d_9_9_143 (by decide) (fun c116 => ?_) (fun c116 => ?_)
        ·
          have b117 : q_F (a96.toInt ≠ 0) := (q_neI c116)
          refine lv_iload_n hx hb d_9_9_158 rfl (lv_at hl 0 rfl) ?_
          refine lv_iconst (v := 2) hx hb d_9_9_159 (by decide) ?_
          refine lv_icmp_ne (tgt := 183) hx hb d_9_9_160 (by decide) (fun c118 => ?_) (fun c118 => ?_)
          ·
            have b119 : q_F (a96.toInt ≠ 2) := (q_neI c118)
            refine lv_aload_n hx hb d_9_9_183 rfl (lv_at hl 1 rfl) ?_
            refine q_get (ci := 11) (j := 6) (v := .ref (q 47)) C0 V i_Pri rfl rfl hT0 (by decide) w_391 rfl d_9_9_184 ?_
            refine q_ldcs (i := 16) C0 V rfl rfl d_9_9_187 ?_
            refine q_goi V (q_runV (As := [.ref (g (8 + 2 * 16))]) (rest := []) (d := 5) (mc := 0) (ms := 0) (ci := 10) C0 V rfl LV_Pri_133 (X_Dir_isOneOf_16 l D g q ws   hI t8_0 t8_1 t8_2 t8_3 t8_4 t8_5 t8_6 hT8  _) rfl rfl hT8 rfl hl.1 rfl (Nat.le_of_ble_eq_true rfl) ⟨by decide, by decide⟩ ⟨Nat.le_of_ble_eq_true rfl, Nat.le_of_ble_eq_true rfl⟩ d_9_9_189) (fun a122 u120 H locs hp121 V => ?_)
            obtain ⟨rfl, b123, b124, hE125⟩ := hp121
            have e126 : a122 = (F_Dir_isOneOf_16 t8_0 t8_1 t8_2 t8_3 t8_4 t8_5 t8_6) := hE125
            replace b123 : q_F (0 ≤ a122.toInt) := b123
            replace b124 : q_F (a122.toInt ≤ 1) := b124
            refine lv_if_eq (tgt := 211) hx hb d_9_9_192 (by decide) (fun c127 => ?_) (fun c127 => ?_)
            ·
              have b128 : q_F (a122.toInt = 0) := (q_eqI c127)
              refine lv_aload_n hx hb d_9_9_211 rfl (lv_at hl 1 rfl) ?_
              refine lv_aload_n hx hb d_9_9_212 rfl (lv_at hl 1 rfl) ?_
              refine q_get (ci := 11) (j := 2) (v := .ref (q 42)) C0 V i_Pri rfl rfl hT0 (by decide) w_387 rfl d_9_9_213 ?_
              refine lv_aload_n hx hb d_9_9_216 rfl (lv_at hl 1 rfl) ?_
              refine q_get (ci := 11) (j := 11) (v := .int t0_3) C0 V i_Pri rfl rfl hT0 (by decide) w_396 rfl d_9_9_217 ?_
              refine q_lald C0 V hT2 (q_ix (x := t0_3.toInt) rfl (by have t1 : 0 ≤ t0_3.toInt := ob95; omega) (by have t1 : 0 ≤ t0_3.toInt := ob95; have t2 : -1 ≤ t0_3.toInt ∧ t0_3.toInt ≤ 8 := btt0_3; omega)) d_9_9_220 ?_
              obtain ⟨j129, e130⟩ := q_nm (t2_0 t0_3.toNatClampNeg : Int64)
              refine q_tl (v := j129) e130 ?_
              refine lv_lconst (v := 0) hx hb d_9_9_221 (by decide) ?_
              refine W.lcmp hx hb d_9_9_222 ?_
              obtain ⟨a131, e132⟩ := q_nm (lg_cmp j129 0 : Int32)
              refine q_ti (v := a131) e132 ?_
              have b133 : q_F (-1 ≤ a131.toInt ∧ a131.toInt ≤ 1 ∧ ((a131.toInt = -1 ∧ j129.toInt < 0) ∨ (a131.toInt = 0 ∧ j129.toInt = 0) ∨ (a131.toInt = 1 ∧ 0 < j129.toInt))) := (by rw [← e132]; show -1 ≤ (lg_cmp j129 0 : Int32).toInt ∧ (lg_cmp j129 0 : Int32).toInt ≤ 1 ∧ (((lg_cmp j129 0 : Int32).toInt = -1 ∧ j129.toInt < 0) ∨ ((lg_cmp j129 0 : Int32).toInt = 0 ∧ j129.toInt = 0) ∨ ((lg_cmp j129 0 : Int32).toInt = 1 ∧ 0 < j129.toInt)); exact (by have y1 : (0 : Int64).toInt = 0 := rfl; have z := s_lcmp (a := j129) (b := 0); omega))
              refine q_join (X := Int32) (fun z H locs ls _ => q_F (t6_0.toInt ≤ z.toInt) ∧ q_F (z.toInt ≤ t6_0.toInt + 1) ∧ q_Wd D g (va_A ws sz) s ws H locs ∧ lv_has ls 3 [(0, .ref (q 40))] ∧ F_Pri_writeBody_J231 t0_0 t0_1 t0_2 t0_3 t1_0 t2_0 t3_0 t4_0 t4_1 t5_0 t6_0 t7_0 t8_0 t8_1 t8_2 t8_3 t8_4 t8_5 t8_6 t9_0 t10_0 t11_0 t12_0 t13_0 t14_0 t15_0 t16_0 t17_0 t18_0 t19_0 t20_0 t21_0 t22_0 t23_0 t24_0 t25_0 t26_0 z = (F_Pri_writeBody t0_0 t0_1 t0_2 t0_3 t1_0 t2_0 t3_0 t4_0 t4_1 t5_0 t6_0 t7_0 t8_0 t8_1 t8_2 t8_3 t8_4 t8_5 t8_6 t9_0 t10_0 t11_0 t12_0 t13_0 t14_0 t15_0 t16_0 t17_0 t18_0 t19_0 t20_0 t21_0 t22_0 t23_0 t24_0 t25_0 t26_0) ∧ True ∧ S_Pri_writeBody_J231 t0_0 t0_1 t0_2 t0_3 t1_0 t2_0 t3_0 t4_0 t4_1 t5_0 t6_0 t7_0 t8_0 t8_1 t8_2 t8_3 t8_4 t8_5 t8_6 t9_0 t10_0 t11_0 t12_0 t13_0 t14_0 t15_0 t16_0 t17_0 t18_0 t19_0 t20_0 t21_0 t22_0 t23_0 t24_0 t25_0 t26_0 z) (fun z => [.int z, .ref (q 40)]) 231 0 0 ?_ ?_
              ·
                rintro lx134 H locs ls _ ⟨i163, i164, V, hl, hR165, hS166⟩
                replace i163 : q_F (t6_0.toInt ≤ lx134.toInt) := i163
                replace i164 : q_F (lx134.toInt ≤ t6_0.toInt + 1) := i164
                replace hl : lv_has ls 3 [(0, .ref (q 40))] := hl
                refine q_gov V (q_runV (As := [.int lx134]) (rest := []) (d := 2) (mc := 0) (ms := 0) (ci := 11) C0 V rfl LV_Pri_185 (X_Pri_writeSign l D g q ws  lx134 hI t0_0 t0_1 t0_2 t0_3 hT0 t6_0 hT6 t7_0 hT7 t8_0 t8_1 t8_2 t8_3 t8_4 t8_5 t8_6 hT8 ⟨(by have t1 : 0 ≤ t6_0.toInt ∧ t6_0.toInt ≤ 1000000 := btt6_0; have t2 : t6_0.toInt ≤ lx134.toInt := i163; omega), (by have t1 : t6_0.toInt ≤ 0 := pre0; have t2 : lx134.toInt ≤ t6_0.toInt + 1 := i164; omega)⟩ (by have t1 : t6_0.toInt ≤ 0 := pre0; omega) _) rfl rfl hT0 rfl hl.1 rfl (Nat.le_of_ble_eq_true rfl) ⟨by decide, by decide⟩ ⟨Nat.le_of_ble_eq_true rfl, Nat.le_of_ble_eq_true rfl⟩ d_9_9_231) (fun u170 H locs hp171 V => ?_)
                obtain ⟨hI, hu193, y173, y174, y175, y176, y178, f179, hO172, hO177, hA180, b181, b182, b183, b184, b185, b186, b187, b188, b189, b190, b191, hE192⟩ := hp171
                replace hO172 : u170[40]? = (some (q 40, .inr (11, [.int y173, .ref (q 41), .ref (q 42), .ref (q 43), .ref (q 44), .ref (q 1), .ref (q 47), .ref (q 36), .ref (q 45), .int y174, .int y175, .int y176])) : Option (Nat × va_E)) := hO172
                replace hO177 : u170[45]? = (some (q 45, .inr (1, [.ref (q 46), .int 4104, .int y178])) : Option (Nat × va_E)) := hO177
                replace hA180 : u170[46]? = (some (q 46, .inl (g 1, (513 : Int32).toNatClampNeg, .inr (.inl f179))) : Option (Nat × va_E)) := hA180
                obtain ⟨p194, e195⟩ : ∃ z, z = (F_Pri_writeSign lx134 t0_0 t0_1 t0_2 t0_3 t6_0 t7_0 t8_0 t8_1 t8_2 t8_3 t8_4 t8_5 t8_6) := ⟨_, rfl⟩
                have e196 : y173 = p194.1 := congrArg (fun z => z.1) (hE192.trans e195.symm)
                have e197 : y174 = p194.2.1 := congrArg (fun z => z.2.1) (hE192.trans e195.symm)
                have e198 : y175 = p194.2.2.1 := congrArg (fun z => z.2.2.1) (hE192.trans e195.symm)
                have e199 : y176 = p194.2.2.2.1 := congrArg (fun z => z.2.2.2.1) (hE192.trans e195.symm)
                have e200 : y178 = p194.2.2.2.2.1 := congrArg (fun z => z.2.2.2.2.1) (hE192.trans e195.symm)
                have e201 : f179 = p194.2.2.2.2.2 := congrArg (fun z => z.2.2.2.2.2) (hE192.trans e195.symm)
                replace b181 : q_F (t0_0.toInt ≤ y173.toInt) := b181
                replace b182 : q_F (y173.toInt ≤ t0_0.toInt) := b182
                replace b183 : q_F (t0_2.toInt ≤ y175.toInt) := b183
                replace b184 : q_F (y175.toInt ≤ t0_2.toInt) := b184
                replace b185 : q_F (t0_3.toInt ≤ y176.toInt) := b185
                replace b186 : q_F (y176.toInt ≤ t0_3.toInt) := b186
                replace b187 : q_F (lx134.toInt ≤ y178.toInt) := b187
                replace b188 : q_F (t6_0.toInt ≤ y178.toInt) := b188
                replace b189 : q_F (y178.toInt ≤ t6_0.toInt + 1) := b189
                replace b190 : q_F (y178.toInt ≤ y174.toInt) := b190
                replace b191 : q_F (y174.toInt ≤ y178.toInt) := b191
                replace hT1 := (hu193 _ (by decide)).trans hT1
                replace hT2 := (hu193 _ (by decide)).trans hT2
                replace hT3 := (hu193 _ (by decide)).trans hT3
                replace hT4 := (hu193 _ (by decide)).trans hT4
                replace hT5 := (hu193 _ (by decide)).trans hT5
                replace hT8 := (hu193 _ (by decide)).trans hT8
                replace hT9 := (hu193 _ (by decide)).trans hT9
                replace hT10 := (hu193 _ (by decide)).trans hT10
                replace hT11 := (hu193 _ (by decide)).trans hT11
                replace hT12 := (hu193 _ (by decide)).trans hT12
                replace hT13 := (hu193 _ (by decide)).trans hT13
                replace hT14 := (hu193 _ (by decide)).trans hT14
                replace hT15 := (hu193 _ (by decide)).trans hT15
                replace hT16 := (hu193 _ (by decide)).trans hT16
                replace hT17 := (hu193 _ (by decide)).trans hT17
                replace hT18 := (hu193 _ (by decide)).trans hT18
                replace hT19 := (hu193 _ (by decide)).trans hT19
                replace hT20 := (hu193 _ (by decide)).trans hT20
                replace hT21 := (hu193 _ (by decide)).trans hT21
                replace hT22 := (hu193 _ (by decide)).trans hT22
                replace hT23 := (hu193 _ (by decide)).trans hT23
                replace hT24 := (hu193 _ (by decide)).trans hT24
                replace hT25 := (hu193 _ (by decide)).trans hT25
                replace hT26 := (hu193 _ (by decide)).trans hT26
                replace hF := q_uc hF hu193 (by simp)
                have hR202 := (show F_Pri_writeBody_c231 t0_0 t0_1 t0_2 t0_3 t1_0 t2_0 t3_0 t4_0 t4_1 t5_0 t6_0 t7_0 t8_0 t8_1 t8_2 t8_3 t8_4 t8_5 t8_6 t9_0 t10_0 t11_0 t12_0 t13_0 t14_0 t15_0 t16_0 t17_0 t18_0 t19_0 t20_0 t21_0 t22_0 t23_0 t24_0 t25_0 t26_0 lx134 p194 = (F_Pri_writeBody t0_0 t0_1 t0_2 t0_3 t1_0 t2_0 t3_0 t4_0 t4_1 t5_0 t6_0 t7_0 t8_0 t8_1 t8_2 t8_3 t8_4 t8_5 t8_6 t9_0 t10_0 t11_0 t12_0 t13_0 t14_0 t15_0 t16_0 t17_0 t18_0 t19_0 t20_0 t21_0 t22_0 t23_0 t24_0 t25_0 t26_0) from Eq.trans (by rw [e195, F_Pri_writeBody_J231.eq_1]) hR165)
                have hS203 := (show True ∧ S_Pri_writeBody_c231 t0_0 t0_1 t0_2 t0_3 t1_0 t2_0 t3_0 t4_0 t4_1 t5_0 t6_0 t7_0 t8_0 t8_1 t8_2 t8_3 t8_4 t8_5 t8_6 t9_0 t10_0 t11_0 t12_0 t13_0 t14_0 t15_0 t16_0 t17_0 t18_0 t19_0 t20_0 t21_0 t22_0 t23_0 t24_0 t25_0 t26_0 lx134 p194 from (by rw [e195]; have h := hS166; rw [S_Pri_writeBody_J231.eq_1] at h; with_reducible exact h))
                refine lv_aload_n hx hb d_9_9_234 rfl (lv_at hl 0 rfl) ?_
                refine q_get (ci := 11) (j := 7) (v := .ref (q 36)) C0 V i_Pri rfl rfl hO172 (by decide) w_392 rfl d_9_9_235 ?_
                refine lv_aload_n hx hb d_9_9_238 rfl (lv_at hl 0 rfl) ?_
                refine q_get (ci := 11) (j := 2) (v := .ref (q 42)) C0 V i_Pri rfl rfl hO172 (by decide) w_387 rfl d_9_9_239 ?_
                refine lv_aload_n hx hb d_9_9_242 rfl (lv_at hl 0 rfl) ?_
                refine q_get (ci := 11) (j := 11) (v := .int y176) C0 V i_Pri rfl rfl hO172 (by decide) w_396 rfl d_9_9_243 ?_
                refine q_lald C0 V hT2 (q_ix (x := y176.toInt) rfl (by have t1 : 0 ≤ t0_3.toInt := ob95; have t2 : t0_3.toInt ≤ y176.toInt := b185; omega) (by have t1 : 0 ≤ t0_3.toInt := ob95; have t2 : t0_3.toInt ≤ y176.toInt := b185; have t3 : -1 ≤ t0_3.toInt ∧ t0_3.toInt ≤ 8 := btt0_3; have t4 : y176.toInt ≤ t0_3.toInt := b186; omega)) d_9_9_246 ?_
                obtain ⟨j207, e208⟩ := q_nm (t2_0 y176.toNatClampNeg : Int64)
                refine q_tl (v := j207) e208 ?_
                refine lv_aload_n hx hb d_9_9_247 rfl (lv_at hl 0 rfl) ?_
                refine q_get (ci := 11) (j := 3) (v := .ref (q 43)) C0 V i_Pri rfl rfl hO172 (by decide) w_388 rfl d_9_9_248 ?_
                refine lv_aload_n hx hb d_9_9_251 rfl (lv_at hl 0 rfl) ?_
                refine q_get (ci := 11) (j := 11) (v := .int y176) C0 V i_Pri rfl rfl hO172 (by decide) w_396 rfl d_9_9_252 ?_
                have bf209 := n_aiB hI (n_s43 g q) hT3
                refine q_iald C0 V hT3 (q_ix (x := y176.toInt) rfl (by have t1 : 0 ≤ t0_3.toInt := ob95; have t2 : t0_3.toInt ≤ y176.toInt := b185; omega) (by have t1 : 0 ≤ t0_3.toInt := ob95; have t2 : t0_3.toInt ≤ y176.toInt := b185; have t3 : -1 ≤ t0_3.toInt ∧ t0_3.toInt ≤ 8 := btt0_3; have t4 : y176.toInt ≤ t0_3.toInt := b186; omega)) d_9_9_255 ?_
                obtain ⟨a210, e211⟩ := q_nm (t3_0 y176.toNatClampNeg : Int32)
                refine q_ti (v := a210) e211 ?_
                have b212 : q_F (-10000 ≤ a210.toInt ∧ a210.toInt ≤ 10000) := (by rw [← e211]; show -10000 ≤ (t3_0 y176.toNatClampNeg : Int32).toInt ∧ (t3_0 y176.toNatClampNeg : Int32).toInt ≤ 10000; exact bf209 _)
                refine q_gov V (q_runV (As := [.long j207, .int a210]) (rest := []) (d := 2) (mc := 0) (ms := 0) (ci := 7) C0 V rfl LV_Pri_189 (X_Dig_fillLong l D g q u170  j207 a210 hI t4_0 t4_1 hT4 t5_0 hT5 (by have t1 : -10000 ≤ a210.toInt ∧ a210.toInt ≤ 10000 := b212; omega) (by have t1 : -10000 ≤ a210.toInt ∧ a210.toInt ≤ 10000 := b212; omega) _) rfl rfl hT4 rfl hl.1 rfl (Nat.le_of_ble_eq_true rfl) ⟨by decide, by decide⟩ ⟨Nat.le_of_ble_eq_true rfl, Nat.le_of_ble_eq_true rfl⟩ d_9_9_256) (fun u213 H locs hp214 V => ?_)
                obtain ⟨hI, hu228, y216, y217, f218, hO215, hA219, b220, b221, b222, b223, b224, b225, b226, hE227⟩ := hp214
                replace hO215 : u213[36]? = (some (q 36, .inr (7, [.int y216, .int y217, .ref (q 37)])) : Option (Nat × va_E)) := hO215
                replace hA219 : u213[37]? = (some (q 37, .inl (g 2, 1026, .inl f218)) : Option (Nat × va_E)) := hA219
                obtain ⟨p229, e230⟩ : ∃ z, z = (F_Dig_fillLong j207 a210 t4_0 t4_1 t5_0) := ⟨_, rfl⟩
                have e231 : y216 = p229.1 := congrArg (fun z => z.1) (hE227.trans e230.symm)
                have e232 : y217 = p229.2.1 := congrArg (fun z => z.2.1) (hE227.trans e230.symm)
                have e233 : f218 = p229.2.2 := congrArg (fun z => z.2.2) (hE227.trans e230.symm)
                replace b220 : q_F (0 ≤ y216.toInt) := b220
                replace b221 : q_F (y216.toInt ≤ 20) := b221
                replace b222 : q_F (0 ≤ y217.toInt + 20000) := b222
                replace b223 : q_F (y217.toInt ≤ y216.toInt + 19999) := b223
                replace b224 : q_F (y216.toInt ≤ y217.toInt + 20001) := b224
                replace b225 : q_F (0 ≤ y217.toInt + a210.toInt + 20000) := b225
                replace b226 : q_F (y217.toInt + a210.toInt ≤ 20000) := b226
                replace hO172 := (hu228 _ (by decide)).trans hO172
                replace hT1 := (hu228 _ (by decide)).trans hT1
                replace hT2 := (hu228 _ (by decide)).trans hT2
                replace hT3 := (hu228 _ (by decide)).trans hT3
                replace hO177 := (hu228 _ (by decide)).trans hO177
                replace hA180 := (hu228 _ (by decide)).trans hA180
                replace hT8 := (hu228 _ (by decide)).trans hT8
                replace hT9 := (hu228 _ (by decide)).trans hT9
                replace hT10 := (hu228 _ (by decide)).trans hT10
                replace hT11 := (hu228 _ (by decide)).trans hT11
                replace hT12 := (hu228 _ (by decide)).trans hT12
                replace hT13 := (hu228 _ (by decide)).trans hT13
                replace hT14 := (hu228 _ (by decide)).trans hT14
                replace hT15 := (hu228 _ (by decide)).trans hT15
                replace hT16 := (hu228 _ (by decide)).trans hT16
                replace hT17 := (hu228 _ (by decide)).trans hT17
                replace hT18 := (hu228 _ (by decide)).trans hT18
                replace hT19 := (hu228 _ (by decide)).trans hT19
                replace hT20 := (hu228 _ (by decide)).trans hT20
                replace hT21 := (hu228 _ (by decide)).trans hT21
                replace hT22 := (hu228 _ (by decide)).trans hT22
                replace hT23 := (hu228 _ (by decide)).trans hT23
                replace hT24 := (hu228 _ (by decide)).trans hT24
                replace hT25 := (hu228 _ (by decide)).trans hT25
                replace hT26 := (hu228 _ (by decide)).trans hT26
                replace hF := q_uc hF hu228 (by simp)
                have hR234 := (show F_Pri_writeBody_c256 t0_0 t0_1 t0_2 t0_3 t1_0 t2_0 t3_0 t4_0 t4_1 t5_0 t6_0 t7_0 t8_0 t8_1 t8_2 t8_3 t8_4 t8_5 t8_6 t9_0 t10_0 t11_0 t12_0 t13_0 t14_0 t15_0 t16_0 t17_0 t18_0 t19_0 t20_0 t21_0 t22_0 t23_0 t24_0 t25_0 t26_0 lx134 p194 y173 y174 y175 y176 y178 f179 p229 = (F_Pri_writeBody t0_0 t0_1 t0_2 t0_3 t1_0 t2_0 t3_0 t4_0 t4_1 t5_0 t6_0 t7_0 t8_0 t8_1 t8_2 t8_3 t8_4 t8_5 t8_6 t9_0 t10_0 t11_0 t12_0 t13_0 t14_0 t15_0 t16_0 t17_0 t18_0 t19_0 t20_0 t21_0 t22_0 t23_0 t24_0 t25_0 t26_0) from Eq.trans (by rw [e230, ← e211, ← e208, e201, e200, e199, e198, e197, e196, F_Pri_writeBody_c231.eq_1]) hR202)
                have hS235 := (show True ∧ S_Pri_writeBody_c256 t0_0 t0_1 t0_2 t0_3 t1_0 t2_0 t3_0 t4_0 t4_1 t5_0 t6_0 t7_0 t8_0 t8_1 t8_2 t8_3 t8_4 t8_5 t8_6 t9_0 t10_0 t11_0 t12_0 t13_0 t14_0 t15_0 t16_0 t17_0 t18_0 t19_0 t20_0 t21_0 t22_0 t23_0 t24_0 t25_0 t26_0 lx134 p194 y173 y174 y175 y176 y178 f179 p229 from (by rw [e230, ← e211, ← e208, e201, e200, e199, e198, e197, e196]; have h := hS203; rw [S_Pri_writeBody_c231.eq_1] at h; with_reducible exact h))
                refine lv_aload_n hx hb d_9_9_259 rfl (lv_at hl 0 rfl) ?_
                refine q_gov V (q_runV (As := []) (rest := []) (d := 4) (mc := 0) (ms := 0) (ci := 11) C0 V rfl LV_Pri_195 (X_Pri_writeNumber l D g q u213   hI y216 y217 hO215 f218 hA219 y178 hO177 f179 hA180 t8_0 t8_1 t8_2 t8_3 t8_4 t8_5 t8_6 hT8 (by have t1 : 0 ≤ y217.toInt + 20000 := b222; omega) (by have t1 : y216.toInt ≤ 20 := b221; have t2 : y217.toInt ≤ y216.toInt + 19999 := b223; omega) (by have t1 : t6_0.toInt ≤ 0 := pre0; have t2 : y178.toInt ≤ t6_0.toInt + 1 := b189; omega) _) rfl rfl hO172 rfl hl.1 rfl (Nat.le_of_ble_eq_true rfl) ⟨by decide, by decide⟩ ⟨Nat.le_of_ble_eq_true rfl, Nat.le_of_ble_eq_true rfl⟩ d_9_9_260) (fun u239 H locs hp240 V => ?_)
                obtain ⟨hI, hu263, y242, y243, f244, y247, f248, hO241, hA245, hO246, hA249, b250, b251, b252, b253, b254, b255, b256, b257, b258, b259, b260, b261, hE262⟩ := hp240
                replace hO241 : u239[36]? = (some (q 36, .inr (7, [.int y242, .int y243, .ref (q 37)])) : Option (Nat × va_E)) := hO241
                replace hA245 : u239[37]? = (some (q 37, .inl (g 2, 1026, .inl f244)) : Option (Nat × va_E)) := hA245
                replace hO246 : u239[45]? = (some (q 45, .inr (1, [.ref (q 46), .int 4104, .int y247])) : Option (Nat × va_E)) := hO246
                replace hA249 : u239[46]? = (some (q 46, .inl (g 1, (513 : Int32).toNatClampNeg, .inr (.inl f248))) : Option (Nat × va_E)) := hA249
                obtain ⟨p264, e265⟩ : ∃ z, z = (F_Pri_writeNumber y216 y217 f218 y178 f179 t8_0 t8_1 t8_2 t8_3 t8_4 t8_5 t8_6) := ⟨_, rfl⟩
                have e266 : y242 = p264.1 := congrArg (fun z => z.1) (hE262.trans e265.symm)
                have e267 : y243 = p264.2.1 := congrArg (fun z => z.2.1) (hE262.trans e265.symm)
                have e268 : f244 = p264.2.2.1 := congrArg (fun z => z.2.2.1) (hE262.trans e265.symm)
                have e269 : y247 = p264.2.2.2.1 := congrArg (fun z => z.2.2.2.1) (hE262.trans e265.symm)
                have e270 : f248 = p264.2.2.2.2 := congrArg (fun z => z.2.2.2.2) (hE262.trans e265.symm)
                replace b250 : q_F (0 ≤ y242.toInt) := b250
                replace b251 : q_F (y242.toInt ≤ 1026) := b251
                replace b252 : q_F (y243.toInt ≤ 100001) := b252
                replace b253 : q_F (y242.toInt ≤ y216.toInt + 1) := b253
                replace b254 : q_F (y243.toInt ≤ y216.toInt + 100000) := b254
                replace b255 : q_F (y217.toInt ≤ y243.toInt) := b255
                replace b256 : q_F (y243.toInt ≤ y217.toInt + 100001) := b256
                replace b257 : q_F (y217.toInt ≤ y247.toInt + 59997) := b257
                replace b258 : q_F (y178.toInt + 1 ≤ y247.toInt) := b258
                replace b259 : q_F (y247.toInt ≤ y178.toInt + 420003) := b259
                replace b260 : q_F (y243.toInt ≤ y242.toInt + 100000) := b260
                replace b261 : q_F (y243.toInt ≤ y247.toInt + 59999) := b261
                replace hO172 := (hu263 _ (by decide)).trans hO172
                replace hT1 := (hu263 _ (by decide)).trans hT1
                replace hT2 := (hu263 _ (by decide)).trans hT2
                replace hT3 := (hu263 _ (by decide)).trans hT3
                replace hT8 := (hu263 _ (by decide)).trans hT8
                replace hT9 := (hu263 _ (by decide)).trans hT9
                replace hT10 := (hu263 _ (by decide)).trans hT10
                replace hT11 := (hu263 _ (by decide)).trans hT11
                replace hT12 := (hu263 _ (by decide)).trans hT12
                replace hT13 := (hu263 _ (by decide)).trans hT13
                replace hT14 := (hu263 _ (by decide)).trans hT14
                replace hT15 := (hu263 _ (by decide)).trans hT15
                replace hT16 := (hu263 _ (by decide)).trans hT16
                replace hT17 := (hu263 _ (by decide)).trans hT17
                replace hT18 := (hu263 _ (by decide)).trans hT18
                replace hT19 := (hu263 _ (by decide)).trans hT19
                replace hT20 := (hu263 _ (by decide)).trans hT20
                replace hT21 := (hu263 _ (by decide)).trans hT21
                replace hT22 := (hu263 _ (by decide)).trans hT22
                replace hT23 := (hu263 _ (by decide)).trans hT23
                replace hT24 := (hu263 _ (by decide)).trans hT24
                replace hT25 := (hu263 _ (by decide)).trans hT25
                replace hT26 := (hu263 _ (by decide)).trans hT26
                replace hF := q_uc hF hu263 (by simp)
                have hR271 := (show F_Pri_writeBody_c260 t0_0 t0_1 t0_2 t0_3 t1_0 t2_0 t3_0 t4_0 t4_1 t5_0 t6_0 t7_0 t8_0 t8_1 t8_2 t8_3 t8_4 t8_5 t8_6 t9_0 t10_0 t11_0 t12_0 t13_0 t14_0 t15_0 t16_0 t17_0 t18_0 t19_0 t20_0 t21_0 t22_0 t23_0 t24_0 t25_0 t26_0 lx134 p194 y173 y174 y175 y176 y178 f179 p229 p264 = (F_Pri_writeBody t0_0 t0_1 t0_2 t0_3 t1_0 t2_0 t3_0 t4_0 t4_1 t5_0 t6_0 t7_0 t8_0 t8_1 t8_2 t8_3 t8_4 t8_5 t8_6 t9_0 t10_0 t11_0 t12_0 t13_0 t14_0 t15_0 t16_0 t17_0 t18_0 t19_0 t20_0 t21_0 t22_0 t23_0 t24_0 t25_0 t26_0) from Eq.trans (by rw [e265, e233, e232, e231, F_Pri_writeBody_c256.eq_1]) hR234)
                have hS272 := (show True ∧ S_Pri_writeBody_c260 t0_0 t0_1 t0_2 t0_3 t1_0 t2_0 t3_0 t4_0 t4_1 t5_0 t6_0 t7_0 t8_0 t8_1 t8_2 t8_3 t8_4 t8_5 t8_6 t9_0 t10_0 t11_0 t12_0 t13_0 t14_0 t15_0 t16_0 t17_0 t18_0 t19_0 t20_0 t21_0 t22_0 t23_0 t24_0 t25_0 t26_0 lx134 p194 y173 y174 y175 y176 y178 f179 p229 p264 from (by rw [e265, e233, e232, e231]; have h := hS235; rw [S_Pri_writeBody_c256.eq_1] at h; with_reducible exact h))
                refine lv_aload_n hx hb d_9_9_263 rfl (lv_at hl 0 rfl) ?_
                refine q_get (ci := 11) (j := 2) (v := .ref (q 42)) C0 V i_Pri rfl rfl hO172 (by decide) w_387 rfl d_9_9_264 ?_
                refine lv_aload_n hx hb d_9_9_267 rfl (lv_at hl 0 rfl) ?_
                refine q_get (ci := 11) (j := 11) (v := .int y176) C0 V i_Pri rfl rfl hO172 (by decide) w_396 rfl d_9_9_268 ?_
                refine q_lald C0 V hT2 (q_ix (x := y176.toInt) rfl (by have t1 : 0 ≤ t0_3.toInt := ob95; have t2 : t0_3.toInt ≤ y176.toInt := b185; omega) (by have t1 : 0 ≤ t0_3.toInt := ob95; have t2 : t0_3.toInt ≤ y176.toInt := b185; have t3 : -1 ≤ t0_3.toInt ∧ t0_3.toInt ≤ 8 := btt0_3; have t4 : y176.toInt ≤ t0_3.toInt := b186; omega)) d_9_9_271 ?_
                obtain ⟨j276, e277⟩ := q_nm (t2_0 y176.toNatClampNeg : Int64)
                refine q_tl (v := j276) e277 ?_
                refine lv_lconst (v := 0) hx hb d_9_9_272 (by decide) ?_
                refine W.lcmp hx hb d_9_9_273 ?_
                obtain ⟨a278, e279⟩ := q_nm (lg_cmp j276 0 : Int32)
                refine q_ti (v := a278) e279 ?_
                have b280 : q_F (-1 ≤ a278.toInt ∧ a278.toInt ≤ 1 ∧ ((a278.toInt = -1 ∧ j276.toInt < 0) ∨ (a278.toInt = 0 ∧ j276.toInt = 0) ∨ (a278.toInt = 1 ∧ 0 < j276.toInt))) := (by rw [← e279]; show -1 ≤ (lg_cmp j276 0 : Int32).toInt ∧ (lg_cmp j276 0 : Int32).toInt ≤ 1 ∧ (((lg_cmp j276 0 : Int32).toInt = -1 ∧ j276.toInt < 0) ∨ ((lg_cmp j276 0 : Int32).toInt = 0 ∧ j276.toInt = 0) ∨ ((lg_cmp j276 0 : Int32).toInt = 1 ∧ 0 < j276.toInt)); exact (by have y1 : (0 : Int64).toInt = 0 := rfl; have z := s_lcmp (a := j276) (b := 0); omega))
                refine lv_if_ge (tgt := 298) hx hb d_9_9_274 (by decide) (fun c281 => ?_) (fun c281 => ?_)
                ·
                  have b282 : q_F (0 ≤ a278.toInt) := (q_leI c281)
                  exact q_retv C0 V (⟨hI, hF, y173, y174, y175, y176, y242, y243, f244, y247, f248, hO172, hO241, hA245, hO246, hA249, (show t0_0.toInt ≤ y173.toInt from (by have t1 : t0_0.toInt ≤ y173.toInt := b181; omega)), (show y173.toInt ≤ t0_0.toInt from (by have t1 : y173.toInt ≤ t0_0.toInt := b182; omega)), (show t0_1.toInt ≤ y174.toInt + 1000000 from (by have t1 : -1 ≤ t0_1.toInt ∧ t0_1.toInt ≤ 1000000 := btt0_1; have t2 : 0 ≤ t6_0.toInt ∧ t6_0.toInt ≤ 1000000 := btt6_0; have t3 : t6_0.toInt ≤ lx134.toInt := i163; have t4 : lx134.toInt ≤ y178.toInt := b187; have t5 : y178.toInt ≤ y174.toInt := b190; omega)), (show y174.toInt ≤ t0_1.toInt + 3 from (by have t1 : -1 ≤ t0_1.toInt ∧ t0_1.toInt ≤ 1000000 := btt0_1; have t2 : t6_0.toInt ≤ 0 := pre0; have t3 : y178.toInt ≤ t6_0.toInt + 1 := b189; have t4 : y174.toInt ≤ y178.toInt := b191; omega)), (show t6_0.toInt ≤ y174.toInt + 1 from (by have t1 : t6_0.toInt ≤ y178.toInt := b188; have t2 : y178.toInt ≤ y174.toInt := b190; omega)), (show y174.toInt ≤ t6_0.toInt + 1000000 from (by have t1 : y178.toInt ≤ t6_0.toInt + 1 := b189; have t2 : y174.toInt ≤ y178.toInt := b191; omega)), (show t0_2.toInt ≤ y175.toInt from (by have t1 : t0_2.toInt ≤ y175.toInt := b183; omega)), (show y175.toInt ≤ t0_2.toInt from (by have t1 : y175.toInt ≤ t0_2.toInt := b184; omega)), (show t0_3.toInt ≤ y176.toInt from (by have t1 : t0_3.toInt ≤ y176.toInt := b185; omega)), (show y176.toInt ≤ t0_3.toInt from (by have t1 : y176.toInt ≤ t0_3.toInt := b186; omega)), (show y242.toInt ≤ t4_0.toInt + 21 from (by have t1 : 0 ≤ t4_0.toInt ∧ t4_0.toInt ≤ 1026 := btt4_0; have t2 : y216.toInt ≤ 20 := b221; have t3 : y242.toInt ≤ y216.toInt + 1 := b253; omega)), (show t6_0.toInt ≤ y242.toInt from (by have t1 : t6_0.toInt ≤ 0 := pre0; have t2 : 0 ≤ y242.toInt := b250; omega)), (show y242.toInt ≤ t6_0.toInt + 1026 from (by have t1 : 0 ≤ t6_0.toInt ∧ t6_0.toInt ≤ 1000000 := btt6_0; have t2 : y242.toInt ≤ 1026 := b251; omega)), (show t4_1.toInt ≤ y243.toInt + 1020000 from (by have t1 : -1000000 ≤ t4_1.toInt ∧ t4_1.toInt ≤ 1000000 := btt4_1; have t2 : 0 ≤ y217.toInt + 20000 := b222; have t3 : y217.toInt ≤ y243.toInt := b255; omega)), (show y243.toInt ≤ t4_1.toInt + 1100001 from (by have t1 : -1000000 ≤ t4_1.toInt ∧ t4_1.toInt ≤ 1000000 := btt4_1; have t2 : y243.toInt ≤ 100001 := b252; omega)), (show t6_0.toInt ≤ y243.toInt + 1000000 from (by have t1 : t6_0.toInt ≤ 0 := pre0; have t2 : 0 ≤ y217.toInt + 20000 := b222; have t3 : y217.toInt ≤ y243.toInt := b255; omega)), (show y243.toInt ≤ t6_0.toInt + 1000000 from (by have t1 : 0 ≤ t6_0.toInt ∧ t6_0.toInt ≤ 1000000 := btt6_0; have t2 : y243.toInt ≤ 100001 := b252; omega)), (show t6_0.toInt ≤ y247.toInt from (by have t1 : t6_0.toInt ≤ y178.toInt := b188; have t2 : y178.toInt + 1 ≤ y247.toInt := b258; omega)), (show y247.toInt ≤ t6_0.toInt + 420005 from (by have t1 : y178.toInt ≤ t6_0.toInt + 1 := b189; have t2 : y247.toInt ≤ y178.toInt + 420003 := b259; omega)), (show y247.toInt ≤ y174.toInt + 420005 from (by have t1 : y178.toInt ≤ y174.toInt := b190; have t2 : y247.toInt ≤ y178.toInt + 420003 := b259; omega)), (show (y173, y174, y175, y176, y242, y243, f244, y247, f248) = (F_Pri_writeBody t0_0 t0_1 t0_2 t0_3 t1_0 t2_0 t3_0 t4_0 t4_1 t5_0 t6_0 t7_0 t8_0 t8_1 t8_2 t8_3 t8_4 t8_5 t8_6 t9_0 t10_0 t11_0 t12_0 t13_0 t14_0 t15_0 t16_0 t17_0 t18_0 t19_0 t20_0 t21_0 t22_0 t23_0 t24_0 t25_0 t26_0) from Eq.trans (by have c281x := c281; rw [← e279, ← e277] at c281x; rw [e270, e269, e268, e267, e266, F_Pri_writeBody_c260.eq_1, if_pos c281x]) hR271)⟩) d_9_9_298
                ·
                  have b283 : q_F (a278.toInt < 0) := (q_nleI c281)
                  refine lv_aload_n hx hb d_9_9_277 rfl (lv_at hl 0 rfl) ?_
                  refine q_get (ci := 11) (j := 6) (v := .ref (q 47)) C0 V i_Pri rfl rfl hO172 (by decide) w_391 rfl d_9_9_278 ?_
                  refine lv_bipush (v := 32) hx hb d_9_9_281 (by decide) ?_
                  refine q_goi V (q_runV (As := [.int 32]) (rest := []) (d := 1) (mc := 0) (ms := 0) (ci := 10) C0 V rfl LV_Pri_144 (X_Dir_has l D g q u239  32 hI t8_0 t8_1 t8_2 t8_3 t8_4 t8_5 t8_6 hT8  _) rfl rfl hT8 rfl hl.1 rfl (Nat.le_of_ble_eq_true rfl) ⟨by decide, by decide⟩ ⟨Nat.le_of_ble_eq_true rfl, Nat.le_of_ble_eq_true rfl⟩ d_9_9_283) (fun a286 u284 H locs hp285 V => ?_)
                  obtain ⟨rfl, b287, b288, hE289⟩ := hp285
                  have e290 : a286 = (F_Dir_has (32 : Int32) t8_0 t8_1 t8_2 t8_3 t8_4 t8_5 t8_6) := hE289
                  replace b287 : q_F (0 ≤ a286.toInt) := b287
                  replace b288 : q_F (a286.toInt ≤ 1) := b288
                  refine lv_if_eq (tgt := 298) hx hb d_9_9_286 (by decide) (fun c291 => ?_) (fun c291 => ?_)
                  ·
                    have b292 : q_F (a286.toInt = 0) := (q_eqI c291)
                    exact q_retv C0 V (⟨hI, hF, y173, y174, y175, y176, y242, y243, f244, y247, f248, hO172, hO241, hA245, hO246, hA249, (show t0_0.toInt ≤ y173.toInt from (by have t1 : t0_0.toInt ≤ y173.toInt := b181; omega)), (show y173.toInt ≤ t0_0.toInt from (by have t1 : y173.toInt ≤ t0_0.toInt := b182; omega)), (show t0_1.toInt ≤ y174.toInt + 1000000 from (by have t1 : -1 ≤ t0_1.toInt ∧ t0_1.toInt ≤ 1000000 := btt0_1; have t2 : 0 ≤ t6_0.toInt ∧ t6_0.toInt ≤ 1000000 := btt6_0; have t3 : t6_0.toInt ≤ lx134.toInt := i163; have t4 : lx134.toInt ≤ y178.toInt := b187; have t5 : y178.toInt ≤ y174.toInt := b190; omega)), (show y174.toInt ≤ t0_1.toInt + 3 from (by have t1 : -1 ≤ t0_1.toInt ∧ t0_1.toInt ≤ 1000000 := btt0_1; have t2 : t6_0.toInt ≤ 0 := pre0; have t3 : y178.toInt ≤ t6_0.toInt + 1 := b189; have t4 : y174.toInt ≤ y178.toInt := b191; omega)), (show t6_0.toInt ≤ y174.toInt + 1 from (by have t1 : t6_0.toInt ≤ y178.toInt := b188; have t2 : y178.toInt ≤ y174.toInt := b190; omega)), (show y174.toInt ≤ t6_0.toInt + 1000000 from (by have t1 : y178.toInt ≤ t6_0.toInt + 1 := b189; have t2 : y174.toInt ≤ y178.toInt := b191; omega)), (show t0_2.toInt ≤ y175.toInt from (by have t1 : t0_2.toInt ≤ y175.toInt := b183; omega)), (show y175.toInt ≤ t0_2.toInt from (by have t1 : y175.toInt ≤ t0_2.toInt := b184; omega)), (show t0_3.toInt ≤ y176.toInt from (by have t1 : t0_3.toInt ≤ y176.toInt := b185; omega)), (show y176.toInt ≤ t0_3.toInt from (by have t1 : y176.toInt ≤ t0_3.toInt := b186; omega)), (show y242.toInt ≤ t4_0.toInt + 21 from (by have t1 : 0 ≤ t4_0.toInt ∧ t4_0.toInt ≤ 1026 := btt4_0; have t2 : y216.toInt ≤ 20 := b221; have t3 : y242.toInt ≤ y216.toInt + 1 := b253; omega)), (show t6_0.toInt ≤ y242.toInt from (by have t1 : t6_0.toInt ≤ 0 := pre0; have t2 : 0 ≤ y242.toInt := b250; omega)), (show y242.toInt ≤ t6_0.toInt + 1026 from (by have t1 : 0 ≤ t6_0.toInt ∧ t6_0.toInt ≤ 1000000 := btt6_0; have t2 : y242.toInt ≤ 1026 := b251; omega)), (show t4_1.toInt ≤ y243.toInt + 1020000 from (by have t1 : -1000000 ≤ t4_1.toInt ∧ t4_1.toInt ≤ 1000000 := btt4_1; have t2 : 0 ≤ y217.toInt + 20000 := b222; have t3 : y217.toInt ≤ y243.toInt := b255; omega)), (show y243.toInt ≤ t4_1.toInt + 1100001 from (by have t1 : -1000000 ≤ t4_1.toInt ∧ t4_1.toInt ≤ 1000000 := btt4_1; have t2 : y243.toInt ≤ 100001 := b252; omega)), (show t6_0.toInt ≤ y243.toInt + 1000000 from (by have t1 : t6_0.toInt ≤ 0 := pre0; have t2 : 0 ≤ y217.toInt + 20000 := b222; have t3 : y217.toInt ≤ y243.toInt := b255; omega)), (show y243.toInt ≤ t6_0.toInt + 1000000 from (by have t1 : 0 ≤ t6_0.toInt ∧ t6_0.toInt ≤ 1000000 := btt6_0; have t2 : y243.toInt ≤ 100001 := b252; omega)), (show t6_0.toInt ≤ y247.toInt from (by have t1 : t6_0.toInt ≤ y178.toInt := b188; have t2 : y178.toInt + 1 ≤ y247.toInt := b258; omega)), (show y247.toInt ≤ t6_0.toInt + 420005 from (by have t1 : y178.toInt ≤ t6_0.toInt + 1 := b189; have t2 : y247.toInt ≤ y178.toInt + 420003 := b259; omega)), (show y247.toInt ≤ y174.toInt + 420005 from (by have t1 : y178.toInt ≤ y174.toInt := b190; have t2 : y247.toInt ≤ y178.toInt + 420003 := b259; omega)), (show (y173, y174, y175, y176, y242, y243, f244, y247, f248) = (F_Pri_writeBody t0_0 t0_1 t0_2 t0_3 t1_0 t2_0 t3_0 t4_0 t4_1 t5_0 t6_0 t7_0 t8_0 t8_1 t8_2 t8_3 t8_4 t8_5 t8_6 t9_0 t10_0 t11_0 t12_0 t13_0 t14_0 t15_0 t16_0 t17_0 t18_0 t19_0 t20_0 t21_0 t22_0 t23_0 t24_0 t25_0 t26_0) from Eq.trans (by have c281x := c281; rw [← e279, ← e277] at c281x; have c291x := c291; rw [e290] at c291x; rw [e270, e269, e268, e267, e266, F_Pri_writeBody_c260.eq_1, if_neg c281x, if_pos c291x]) hR271)⟩) d_9_9_298
                  ·
                    have b293 : q_F (a286.toInt ≠ 0) := (q_neI c291)
                    refine lv_aload_n hx hb d_9_9_289 rfl (lv_at hl 0 rfl) ?_
                    refine q_get (ci := 11) (j := 8) (v := .ref (q 45)) C0 V i_Pri rfl rfl hO172 (by decide) w_393 rfl d_9_9_290 ?_
                    refine lv_bipush (v := 41) hx hb d_9_9_293 (by decide) ?_
                    refine q_gov V (q_runV (As := [.int 41]) (rest := []) (d := 1) (mc := 0) (ms := 0) (ci := 1) C0 V rfl LV_Pri_113 (X_She_add_p l D g q u239 45 4104 513 1000000 (n_h45 g q) 41 hI y247 hO246 f248 hA249 (by have y0 : (4104 : Int32).toInt = 4104 := rfl; have y1 : (513 : Int32).toInt = 513 := rfl; have y2 : (1000000 : Int32).toInt = 1000000 := rfl; have y3 : (41 : Int32).toInt = 41 := rfl; have t1 : t6_0.toInt ≤ 0 := pre0; have t2 : y178.toInt ≤ t6_0.toInt + 1 := b189; have t3 : y247.toInt ≤ y178.toInt + 420003 := b259; omega) _) rfl rfl hO246 rfl hl.1 rfl (Nat.le_of_ble_eq_true rfl) ⟨by decide, by decide⟩ ⟨Nat.le_of_ble_eq_true rfl, Nat.le_of_ble_eq_true rfl⟩ d_9_9_295) (fun u294 H locs hp295 V => ?_)
                    obtain ⟨hI, hu303, y297, f298, hO296, hA299, b300, b301, hE302⟩ := hp295
                    replace hO296 : u294[45]? = (some (q 45, .inr (1, [.ref (q 46), .int 4104, .int y297])) : Option (Nat × va_E)) := hO296
                    replace hA299 : u294[46]? = (some (q 46, .inl (g 1, (513 : Int32).toNatClampNeg, .inr (.inl f298))) : Option (Nat × va_E)) := hA299
                    obtain ⟨p304, e305⟩ : ∃ z, z = (F_She_add_p (4104 : Int32) (513 : Int32) (1000000 : Int32) (41 : Int32) y247 f248) := ⟨_, rfl⟩
                    have e306 : y297 = p304.1 := congrArg (fun z => z.1) (hE302.trans e305.symm)
                    have e307 : f298 = p304.2 := congrArg (fun z => z.2) (hE302.trans e305.symm)
                    replace b300 : q_F (y247.toInt + 1 ≤ y297.toInt) := b300
                    replace b301 : q_F (y297.toInt ≤ y247.toInt + 1) := b301
                    replace hO172 := (hu303 _ (by decide)).trans hO172
                    replace hT1 := (hu303 _ (by decide)).trans hT1
                    replace hT2 := (hu303 _ (by decide)).trans hT2
                    replace hT3 := (hu303 _ (by decide)).trans hT3
                    replace hO241 := (hu303 _ (by decide)).trans hO241
                    replace hA245 := (hu303 _ (by decide)).trans hA245
                    replace hT8 := (hu303 _ (by decide)).trans hT8
                    replace hT9 := (hu303 _ (by decide)).trans hT9
                    replace hT10 := (hu303 _ (by decide)).trans hT10
                    replace hT11 := (hu303 _ (by decide)).trans hT11
                    replace hT12 := (hu303 _ (by decide)).trans hT12
                    replace hT13 := (hu303 _ (by decide)).trans hT13
                    replace hT14 := (hu303 _ (by decide)).trans hT14
                    replace hT15 := (hu303 _ (by decide)).trans hT15
                    replace hT16 := (hu303 _ (by decide)).trans hT16
                    replace hT17 := (hu303 _ (by decide)).trans hT17
                    replace hT18 := (hu303 _ (by decide)).trans hT18
                    replace hT19 := (hu303 _ (by decide)).trans hT19
                    replace hT20 := (hu303 _ (by decide)).trans hT20
                    replace hT21 := (hu303 _ (by decide)).trans hT21
                    replace hT22 := (hu303 _ (by decide)).trans hT22
                    replace hT23 := (hu303 _ (by decide)).trans hT23
                    replace hT24 := (hu303 _ (by decide)).trans hT24
                    replace hT25 := (hu303 _ (by decide)).trans hT25
                    replace hT26 := (hu303 _ (by decide)).trans hT26
                    replace hF := q_uc hF hu303 (by simp)
                    have hR308 := (show F_Pri_writeBody_c295 t0_0 t0_1 t0_2 t0_3 t1_0 t2_0 t3_0 t4_0 t4_1 t5_0 t6_0 t7_0 t8_0 t8_1 t8_2 t8_3 t8_4 t8_5 t8_6 t9_0 t10_0 t11_0 t12_0 t13_0 t14_0 t15_0 t16_0 t17_0 t18_0 t19_0 t20_0 t21_0 t22_0 t23_0 t24_0 t25_0 t26_0 lx134 p194 y173 y174 y175 y176 y178 f179 p229 p264 y242 y243 f244 p304 = (F_Pri_writeBody t0_0 t0_1 t0_2 t0_3 t1_0 t2_0 t3_0 t4_0 t4_1 t5_0 t6_0 t7_0 t8_0 t8_1 t8_2 t8_3 t8_4 t8_5 t8_6 t9_0 t10_0 t11_0 t12_0 t13_0 t14_0 t15_0 t16_0 t17_0 t18_0 t19_0 t20_0 t21_0 t22_0 t23_0 t24_0 t25_0 t26_0) from Eq.trans (by have c281x := c281; rw [← e279, ← e277] at c281x; have c291x := c291; rw [e290] at c291x; rw [e305, e270, e269, e268, e267, e266, F_Pri_writeBody_c260.eq_1, if_neg c281x, if_neg c291x]) hR271)
                    have hS309 := (show True ∧ S_Pri_writeBody_c295 t0_0 t0_1 t0_2 t0_3 t1_0 t2_0 t3_0 t4_0 t4_1 t5_0 t6_0 t7_0 t8_0 t8_1 t8_2 t8_3 t8_4 t8_5 t8_6 t9_0 t10_0 t11_0 t12_0 t13_0 t14_0 t15_0 t16_0 t17_0 t18_0 t19_0 t20_0 t21_0 t22_0 t23_0 t24_0 t25_0 t26_0 lx134 p194 y173 y174 y175 y176 y178 f179 p229 p264 y242 y243 f244 p304 from (by rw [e305, e270, e269, e268, e267, e266]; have h := hS272; rw [S_Pri_writeBody_c260.eq_1] at h; have c281x := c281; rw [← e279, ← e277] at c281x; rw [if_neg c281x] at h; have c291x := c291; rw [e290] at c291x; rw [if_neg c291x] at h; with_reducible exact h))
                    exact q_retv C0 V (⟨hI, hF, y173, y174, y175, y176, y242, y243, f244, y297, f298, hO172, hO241, hA245, hO296, hA299, (show t0_0.toInt ≤ y173.toInt from (by have t1 : t0_0.toInt ≤ y173.toInt := b181; omega)), (show y173.toInt ≤ t0_0.toInt from (by have t1 : y173.toInt ≤ t0_0.toInt := b182; omega)), (show t0_1.toInt ≤ y174.toInt + 1000000 from (by have t1 : -1 ≤ t0_1.toInt ∧ t0_1.toInt ≤ 1000000 := btt0_1; have t2 : 0 ≤ t6_0.toInt ∧ t6_0.toInt ≤ 1000000 := btt6_0; have t3 : t6_0.toInt ≤ lx134.toInt := i163; have t4 : lx134.toInt ≤ y178.toInt := b187; have t5 : y178.toInt ≤ y174.toInt := b190; omega)), (show y174.toInt ≤ t0_1.toInt + 3 from (by have t1 : -1 ≤ t0_1.toInt ∧ t0_1.toInt ≤ 1000000 := btt0_1; have t2 : t6_0.toInt ≤ 0 := pre0; have t3 : y178.toInt ≤ t6_0.toInt + 1 := b189; have t4 : y174.toInt ≤ y178.toInt := b191; omega)), (show t6_0.toInt ≤ y174.toInt + 1 from (by have t1 : t6_0.toInt ≤ y178.toInt := b188; have t2 : y178.toInt ≤ y174.toInt := b190; omega)), (show y174.toInt ≤ t6_0.toInt + 1000000 from (by have t1 : y178.toInt ≤ t6_0.toInt + 1 := b189; have t2 : y174.toInt ≤ y178.toInt := b191; omega)), (show t0_2.toInt ≤ y175.toInt from (by have t1 : t0_2.toInt ≤ y175.toInt := b183; omega)), (show y175.toInt ≤ t0_2.toInt from (by have t1 : y175.toInt ≤ t0_2.toInt := b184; omega)), (show t0_3.toInt ≤ y176.toInt from (by have t1 : t0_3.toInt ≤ y176.toInt := b185; omega)), (show y176.toInt ≤ t0_3.toInt from (by have t1 : y176.toInt ≤ t0_3.toInt := b186; omega)), (show y242.toInt ≤ t4_0.toInt + 21 from (by have t1 : 0 ≤ t4_0.toInt ∧ t4_0.toInt ≤ 1026 := btt4_0; have t2 : y216.toInt ≤ 20 := b221; have t3 : y242.toInt ≤ y216.toInt + 1 := b253; omega)), (show t6_0.toInt ≤ y242.toInt from (by have t1 : t6_0.toInt ≤ 0 := pre0; have t2 : 0 ≤ y242.toInt := b250; omega)), (show y242.toInt ≤ t6_0.toInt + 1026 from (by have t1 : 0 ≤ t6_0.toInt ∧ t6_0.toInt ≤ 1000000 := btt6_0; have t2 : y242.toInt ≤ 1026 := b251; omega)), (show t4_1.toInt ≤ y243.toInt + 1020000 from (by have t1 : -1000000 ≤ t4_1.toInt ∧ t4_1.toInt ≤ 1000000 := btt4_1; have t2 : 0 ≤ y217.toInt + 20000 := b222; have t3 : y217.toInt ≤ y243.toInt := b255; omega)), (show y243.toInt ≤ t4_1.toInt + 1100001 from (by have t1 : -1000000 ≤ t4_1.toInt ∧ t4_1.toInt ≤ 1000000 := btt4_1; have t2 : y243.toInt ≤ 100001 := b252; omega)), (show t6_0.toInt ≤ y243.toInt + 1000000 from (by have t1 : t6_0.toInt ≤ 0 := pre0; have t2 : 0 ≤ y217.toInt + 20000 := b222; have t3 : y217.toInt ≤ y243.toInt := b255; omega)), (show y243.toInt ≤ t6_0.toInt + 1000000 from (by have t1 : 0 ≤ t6_0.toInt ∧ t6_0.toInt ≤ 1000000 := btt6_0; have t2 : y243.toInt ≤ 100001 := b252; omega)), (show t6_0.toInt ≤ y297.toInt from (by have t1 : t6_0.toInt ≤ lx134.toInt := i163; have t2 : lx134.toInt ≤ y178.toInt := b187; have t3 : y178.toInt + 1 ≤ y247.toInt := b258; have t4 : y247.toInt + 1 ≤ y297.toInt := b300; omega)), (show y297.toInt ≤ t6_0.toInt + 420005 from (by have t1 : y178.toInt ≤ t6_0.toInt + 1 := b189; have t2 : y247.toInt ≤ y178.toInt + 420003 := b259; have t3 : y297.toInt ≤ y247.toInt + 1 := b301; omega)), (show y297.toInt ≤ y174.toInt + 420005 from (by have t1 : y178.toInt ≤ y174.toInt := b190; have t2 : y247.toInt ≤ y178.toInt + 420003 := b259; have t3 : y297.toInt ≤ y247.toInt + 1 := b301; omega)), (show (y173, y174, y175, y176, y242, y243, f244, y297, f298) = (F_Pri_writeBody t0_0 t0_1 t0_2 t0_3 t1_0 t2_0 t3_0 t4_0 t4_1 t5_0 t6_0 t7_0 t8_0 t8_1 t8_2 t8_3 t8_4 t8_5 t8_6 t9_0 t10_0 t11_0 t12_0 t13_0 t14_0 t15_0 t16_0 t17_0 t18_0 t19_0 t20_0 t21_0 t22_0 t23_0 t24_0 t25_0 t26_0) from Eq.trans (by rw [e307, e306, F_Pri_writeBody_c295.eq_1]) hR308)⟩) d_9_9_298
              ·
                intro J162
                refine lv_if_ge (tgt := 230) hx hb d_9_9_223 (by decide) (fun c313 => ?_) (fun c313 => ?_)
                ·
                  have b314 : q_F (0 ≤ a131.toInt) := (q_leI c313)
                  refine lv_iconst (v := 0) hx hb d_9_9_230 (by decide) ?_
                  exact J162 ((0 : Int32)) _ _ _ ws ⟨(show q_F (t6_0.toInt ≤ 0) from (show t6_0.toInt ≤ 0 from by have t1 : t6_0.toInt ≤ 0 := pre0; omega)), (show q_F (0 ≤ t6_0.toInt + 1) from (show 0 ≤ t6_0.toInt + 1 from by have t1 : 0 ≤ t6_0.toInt ∧ t6_0.toInt ≤ 1000000 := btt6_0; omega)), V, q_lw hl (q_lw1 1 rfl q_lw0), (show F_Pri_writeBody_J231 t0_0 t0_1 t0_2 t0_3 t1_0 t2_0 t3_0 t4_0 t4_1 t5_0 t6_0 t7_0 t8_0 t8_1 t8_2 t8_3 t8_4 t8_5 t8_6 t9_0 t10_0 t11_0 t12_0 t13_0 t14_0 t15_0 t16_0 t17_0 t18_0 t19_0 t20_0 t21_0 t22_0 t23_0 t24_0 t25_0 t26_0 0 = (F_Pri_writeBody t0_0 t0_1 t0_2 t0_3 t1_0 t2_0 t3_0 t4_0 t4_1 t5_0 t6_0 t7_0 t8_0 t8_1 t8_2 t8_3 t8_4 t8_5 t8_6 t9_0 t10_0 t11_0 t12_0 t13_0 t14_0 t15_0 t16_0 t17_0 t18_0 t19_0 t20_0 t21_0 t22_0 t23_0 t24_0 t25_0 t26_0) from (by have c93x := c93; rw [e92] at c93x; have c105x := c105; rw [e104] at c105x; have c114x := c114; rw [e113] at c114x; have c116x := c116; rw [← e97] at c116x; have c118x := c118; rw [← e97] at c118x; have c127x := c127; rw [e126] at c127x; have c313x := c313; rw [← e132, ← e130] at c313x; rw [F_Pri_writeBody.eq_1, if_pos c93x, if_pos c105x, if_pos c114x, if_neg c116x, if_neg c118x, if_pos c127x, if_pos c313x])), (show True ∧ S_Pri_writeBody_J231 t0_0 t0_1 t0_2 t0_3 t1_0 t2_0 t3_0 t4_0 t4_1 t5_0 t6_0 t7_0 t8_0 t8_1 t8_2 t8_3 t8_4 t8_5 t8_6 t9_0 t10_0 t11_0 t12_0 t13_0 t14_0 t15_0 t16_0 t17_0 t18_0 t19_0 t20_0 t21_0 t22_0 t23_0 t24_0 t25_0 t26_0 0 from (by have h := hS; rw [S_Pri_writeBody.eq_1] at h; have c93x := c93; rw [e92] at c93x; rw [if_pos c93x] at h; replace h := q_s2 h; have c105x := c105; rw [e104] at c105x; rw [if_pos c105x] at h; have c114x := c114; rw [e113] at c114x; rw [if_pos c114x] at h; have c116x := c116; rw [← e97] at c116x; rw [if_neg c116x] at h; have c118x := c118; rw [← e97] at c118x; rw [if_neg c118x] at h; have c127x := c127; rw [e126] at c127x; rw [if_pos c127x] at h; have c313x := c313; rw [← e132, ← e130] at c313x; rw [if_pos c313x] at h; with_reducible exact h))⟩
                ·
                  have b315 : q_F (a131.toInt < 0) := (q_nleI c313)
                  refine lv_iconst (v := 1) hx hb d_9_9_226 (by decide) ?_
                  refine lv_goto (tgt := 231) hx hb d_9_9_227 (by decide) ?_
                  exact J162 ((1 : Int32)) _ _ _ ws ⟨(show q_F (t6_0.toInt ≤ 1) from (show t6_0.toInt ≤ 1 from by have t1 : t6_0.toInt ≤ 0 := pre0; omega)), (show q_F (1 ≤ t6_0.toInt + 1) from (show 1 ≤ t6_0.toInt + 1 from by have t1 : 0 ≤ t6_0.toInt ∧ t6_0.toInt ≤ 1000000 := btt6_0; omega)), V, q_lw hl (q_lw1 1 rfl q_lw0), (show F_Pri_writeBody_J231 t0_0 t0_1 t0_2 t0_3 t1_0 t2_0 t3_0 t4_0 t4_1 t5_0 t6_0 t7_0 t8_0 t8_1 t8_2 t8_3 t8_4 t8_5 t8_6 t9_0 t10_0 t11_0 t12_0 t13_0 t14_0 t15_0 t16_0 t17_0 t18_0 t19_0 t20_0 t21_0 t22_0 t23_0 t24_0 t25_0 t26_0 1 = (F_Pri_writeBody t0_0 t0_1 t0_2 t0_3 t1_0 t2_0 t3_0 t4_0 t4_1 t5_0 t6_0 t7_0 t8_0 t8_1 t8_2 t8_3 t8_4 t8_5 t8_6 t9_0 t10_0 t11_0 t12_0 t13_0 t14_0 t15_0 t16_0 t17_0 t18_0 t19_0 t20_0 t21_0 t22_0 t23_0 t24_0 t25_0 t26_0) from (by have c93x := c93; rw [e92] at c93x; have c105x := c105; rw [e104] at c105x; have c114x := c114; rw [e113] at c114x; have c116x := c116; rw [← e97] at c116x; have c118x := c118; rw [← e97] at c118x; have c127x := c127; rw [e126] at c127x; have c313x := c313; rw [← e132, ← e130] at c313x; rw [F_Pri_writeBody.eq_1, if_pos c93x, if_pos c105x, if_pos c114x, if_neg c116x, if_neg c118x, if_pos c127x, if_neg c313x])), (show True ∧ S_Pri_writeBody_J231 t0_0 t0_1 t0_2 t0_3 t1_0 t2_0 t3_0 t4_0 t4_1 t5_0 t6_0 t7_0 t8_0 t8_1 t8_2 t8_3 t8_4 t8_5 t8_6 t9_0 t10_0 t11_0 t12_0 t13_0 t14_0 t15_0 t16_0 t17_0 t18_0 t19_0 t20_0 t21_0 t22_0 t23_0 t24_0 t25_0 t26_0 1 from (by have h := hS; rw [S_Pri_writeBody.eq_1] at h; have c93x := c93; rw [e92] at c93x; rw [if_pos c93x] at h; replace h := q_s2 h; have c105x := c105; rw [e104] at c105x; rw [if_pos c105x] at h; have c114x := c114; rw [e113] at c114x; rw [if_pos c114x] at h; have c116x := c116; rw [← e97] at c116x; rw [if_neg c116x] at h; have c118x := c118; rw [← e97] at c118x; rw [if_neg c118x] at h; have c127x := c127; rw [e126] at c127x; rw [if_pos c127x] at h; have c313x := c313; rw [← e132, ← e130] at c313x; rw [if_neg c313x] at h; with_reducible exact h))⟩
            ·
              have b316 : q_F (a122.toInt ≠ 0) := (q_neI c127)
              refine lv_aload_n hx hb d_9_9_195 rfl (lv_at hl 1 rfl) ?_
              refine lv_aload_n hx hb d_9_9_196 rfl (lv_at hl 1 rfl) ?_
              refine q_get (ci := 11) (j := 2) (v := .ref (q 42)) C0 V i_Pri rfl rfl hT0 (by decide) w_387 rfl d_9_9_197 ?_
              refine lv_aload_n hx hb d_9_9_200 rfl (lv_at hl 1 rfl) ?_
              refine q_get (ci := 11) (j := 11) (v := .int t0_3) C0 V i_Pri rfl rfl hT0 (by decide) w_396 rfl d_9_9_201 ?_
              refine q_lald C0 V hT2 (q_ix (x := t0_3.toInt) rfl (by have t1 : 0 ≤ t0_3.toInt := ob95; omega) (by have t1 : 0 ≤ t0_3.toInt := ob95; have t2 : -1 ≤ t0_3.toInt ∧ t0_3.toInt ≤ 8 := btt0_3; omega)) d_9_9_204 ?_
              obtain ⟨j317, e318⟩ := q_nm (t2_0 t0_3.toNatClampNeg : Int64)
              refine q_tl (v := j317) e318 ?_
              refine q_gov V (q_runV (As := [.long j317]) (rest := []) (d := 6) (mc := 0) (ms := 0) (ci := 11) C0 V rfl LV_Pri_181 (X_Pri_writeToBase l D g q ws  j317 hI t0_0 t0_1 t0_2 t0_3 hT0 t6_0 hT6 t7_0 hT7 t8_0 t8_1 t8_2 t8_3 t8_4 t8_5 t8_6 hT8 (by have t1 : t6_0.toInt ≤ 0 := pre0; omega) _) rfl rfl hT0 rfl hl.1 rfl (Nat.le_of_ble_eq_true rfl) ⟨by decide, by decide⟩ ⟨Nat.le_of_ble_eq_true rfl, Nat.le_of_ble_eq_true rfl⟩ d_9_9_205) (fun u319 H locs hp320 V => ?_)
              obtain ⟨hI, hu341, y322, y323, y324, y325, y327, f328, hO321, hO326, hA329, b330, b331, b332, b333, b334, b335, b336, b337, b338, b339, hE340⟩ := hp320
              replace hO321 : u319[40]? = (some (q 40, .inr (11, [.int y322, .ref (q 41), .ref (q 42), .ref (q 43), .ref (q 44), .ref (q 1), .ref (q 47), .ref (q 36), .ref (q 45), .int y323, .int y324, .int y325])) : Option (Nat × va_E)) := hO321
              replace hO326 : u319[45]? = (some (q 45, .inr (1, [.ref (q 46), .int 4104, .int y327])) : Option (Nat × va_E)) := hO326
              replace hA329 : u319[46]? = (some (q 46, .inl (g 1, (513 : Int32).toNatClampNeg, .inr (.inl f328))) : Option (Nat × va_E)) := hA329
              obtain ⟨p342, e343⟩ : ∃ z, z = (F_Pri_writeToBase j317 t0_0 t0_1 t0_2 t0_3 t6_0 t7_0 t8_0 t8_1 t8_2 t8_3 t8_4 t8_5 t8_6) := ⟨_, rfl⟩
              have e344 : y322 = p342.1 := congrArg (fun z => z.1) (hE340.trans e343.symm)
              have e345 : y323 = p342.2.1 := congrArg (fun z => z.2.1) (hE340.trans e343.symm)
              have e346 : y324 = p342.2.2.1 := congrArg (fun z => z.2.2.1) (hE340.trans e343.symm)
              have e347 : y325 = p342.2.2.2.1 := congrArg (fun z => z.2.2.2.1) (hE340.trans e343.symm)
              have e348 : y327 = p342.2.2.2.2.1 := congrArg (fun z => z.2.2.2.2.1) (hE340.trans e343.symm)
              have e349 : f328 = p342.2.2.2.2.2 := congrArg (fun z => z.2.2.2.2.2) (hE340.trans e343.symm)
              replace b330 : q_F (t0_0.toInt ≤ y322.toInt) := b330
              replace b331 : q_F (y322.toInt ≤ t0_0.toInt) := b331
              replace b332 : q_F (t6_0.toInt ≤ y323.toInt) := b332
              replace b333 : q_F (y323.toInt ≤ t6_0.toInt + 2) := b333
              replace b334 : q_F (t0_2.toInt ≤ y324.toInt) := b334
              replace b335 : q_F (y324.toInt ≤ t0_2.toInt) := b335
              replace b336 : q_F (t0_3.toInt ≤ y325.toInt) := b336
              replace b337 : q_F (y325.toInt ≤ t0_3.toInt) := b337
              replace b338 : q_F (y327.toInt ≤ y323.toInt + 64) := b338
              replace b339 : q_F (y323.toInt + 1 ≤ y327.toInt) := b339
              replace hT1 := (hu341 _ (by decide)).trans hT1
              replace hT2 := (hu341 _ (by decide)).trans hT2
              replace hT3 := (hu341 _ (by decide)).trans hT3
              replace hT4 := (hu341 _ (by decide)).trans hT4
              replace hT5 := (hu341 _ (by decide)).trans hT5
              replace hT8 := (hu341 _ (by decide)).trans hT8
              replace hT9 := (hu341 _ (by decide)).trans hT9
              replace hT10 := (hu341 _ (by decide)).trans hT10
              replace hT11 := (hu341 _ (by decide)).trans hT11
              replace hT12 := (hu341 _ (by decide)).trans hT12
              replace hT13 := (hu341 _ (by decide)).trans hT13
              replace hT14 := (hu341 _ (by decide)).trans hT14
              replace hT15 := (hu341 _ (by decide)).trans hT15
              replace hT16 := (hu341 _ (by decide)).trans hT16
              replace hT17 := (hu341 _ (by decide)).trans hT17
              replace hT18 := (hu341 _ (by decide)).trans hT18
              replace hT19 := (hu341 _ (by decide)).trans hT19
              replace hT20 := (hu341 _ (by decide)).trans hT20
              replace hT21 := (hu341 _ (by decide)).trans hT21
              replace hT22 := (hu341 _ (by decide)).trans hT22
              replace hT23 := (hu341 _ (by decide)).trans hT23
              replace hT24 := (hu341 _ (by decide)).trans hT24
              replace hT25 := (hu341 _ (by decide)).trans hT25
              replace hT26 := (hu341 _ (by decide)).trans hT26
              replace hF := q_uc hF hu341 (by simp)
              have hR350 := (show F_Pri_writeBody_c205 t0_0 t0_1 t0_2 t0_3 t1_0 t2_0 t3_0 t4_0 t4_1 t5_0 t6_0 t7_0 t8_0 t8_1 t8_2 t8_3 t8_4 t8_5 t8_6 t9_0 t10_0 t11_0 t12_0 t13_0 t14_0 t15_0 t16_0 t17_0 t18_0 t19_0 t20_0 t21_0 t22_0 t23_0 t24_0 t25_0 t26_0 a96 p342 = (F_Pri_writeBody t0_0 t0_1 t0_2 t0_3 t1_0 t2_0 t3_0 t4_0 t4_1 t5_0 t6_0 t7_0 t8_0 t8_1 t8_2 t8_3 t8_4 t8_5 t8_6 t9_0 t10_0 t11_0 t12_0 t13_0 t14_0 t15_0 t16_0 t17_0 t18_0 t19_0 t20_0 t21_0 t22_0 t23_0 t24_0 t25_0 t26_0) from (by have c93x := c93; rw [e92] at c93x; have c105x := c105; rw [e104] at c105x; have c114x := c114; rw [e113] at c114x; have c116x := c116; rw [← e97] at c116x; have c118x := c118; rw [← e97] at c118x; have c127x := c127; rw [e126] at c127x; rw [e343, ← e318, ← e97, F_Pri_writeBody.eq_1, if_pos c93x, if_pos c105x, if_pos c114x, if_neg c116x, if_neg c118x, if_neg c127x]))
              have hS351 := (show True ∧ S_Pri_writeBody_c205 t0_0 t0_1 t0_2 t0_3 t1_0 t2_0 t3_0 t4_0 t4_1 t5_0 t6_0 t7_0 t8_0 t8_1 t8_2 t8_3 t8_4 t8_5 t8_6 t9_0 t10_0 t11_0 t12_0 t13_0 t14_0 t15_0 t16_0 t17_0 t18_0 t19_0 t20_0 t21_0 t22_0 t23_0 t24_0 t25_0 t26_0 a96 p342 from (by rw [e343, ← e318, ← e97]; have h := hS; rw [S_Pri_writeBody.eq_1] at h; have c93x := c93; rw [e92] at c93x; rw [if_pos c93x] at h; replace h := q_s2 h; have c105x := c105; rw [e104] at c105x; rw [if_pos c105x] at h; have c114x := c114; rw [e113] at c114x; rw [if_pos c114x] at h; have c116x := c116; rw [← e97] at c116x; rw [if_neg c116x] at h; have c118x := c118; rw [← e97] at c118x; rw [if_neg c118x] at h; have c127x := c127; rw [e126] at c127x; rw [if_neg c127x] at h; with_reducible exact h))
              refine lv_goto (tgt := 298) hx hb d_9_9_208 (by decide) ?_
              exact q_retv C0 V (⟨hI, hF, y322, y323, y324, y325, t4_0, t4_1, t5_0, y327, f328, hO321, hT4, hT5, hO326, hA329, (show t0_0.toInt ≤ y322.toInt from (by have t1 : t0_0.toInt ≤ y322.toInt := b330; omega)), (show y322.toInt ≤ t0_0.toInt from (by have t1 : y322.toInt ≤ t0_0.toInt := b331; omega)), (show t0_1.toInt ≤ y323.toInt + 1000000 from (by have t1 : -1 ≤ t0_1.toInt ∧ t0_1.toInt ≤ 1000000 := btt0_1; have t2 : 0 ≤ t6_0.toInt ∧ t6_0.toInt ≤ 1000000 := btt6_0; have t3 : t6_0.toInt ≤ y323.toInt := b332; omega)), (show y323.toInt ≤ t0_1.toInt + 3 from (by have t1 : -1 ≤ t0_1.toInt ∧ t0_1.toInt ≤ 1000000 := btt0_1; have t2 : t6_0.toInt ≤ 0 := pre0; have t3 : y323.toInt ≤ t6_0.toInt + 2 := b333; omega)), (show t6_0.toInt ≤ y323.toInt + 1 from (by have t1 : t6_0.toInt ≤ y323.toInt := b332; omega)), (show y323.toInt ≤ t6_0.toInt + 1000000 from (by have t1 : y323.toInt ≤ t6_0.toInt + 2 := b333; omega)), (show t0_2.toInt ≤ y324.toInt from (by have t1 : t0_2.toInt ≤ y324.toInt := b334; omega)), (show y324.toInt ≤ t0_2.toInt from (by have t1 : y324.toInt ≤ t0_2.toInt := b335; omega)), (show t0_3.toInt ≤ y325.toInt from (by have t1 : t0_3.toInt ≤ y325.toInt := b336; omega)), (show y325.toInt ≤ t0_3.toInt from (by have t1 : y325.toInt ≤ t0_3.toInt := b337; omega)), (show t4_0.toInt ≤ t4_0.toInt + 21 from (by omega)), (show t6_0.toInt ≤ t4_0.toInt from (by have t1 : 0 ≤ t4_0.toInt ∧ t4_0.toInt ≤ 1026 := btt4_0; have t2 : t6_0.toInt ≤ 0 := pre0; omega)), (show t4_0.toInt ≤ t6_0.toInt + 1026 from (by have t1 : 0 ≤ t4_0.toInt ∧ t4_0.toInt ≤ 1026 := btt4_0; have t2 : 0 ≤ t6_0.toInt ∧ t6_0.toInt ≤ 1000000 := btt6_0; omega)), (show t4_1.toInt ≤ t4_1.toInt + 1020000 from (by omega)), (show t4_1.toInt ≤ t4_1.toInt + 1100001 from (by omega)), (show t6_0.toInt ≤ t4_1.toInt + 1000000 from (by have t1 : -1000000 ≤ t4_1.toInt ∧ t4_1.toInt ≤ 1000000 := btt4_1; have t2 : t6_0.toInt ≤ 0 := pre0; omega)), (show t4_1.toInt ≤ t6_0.toInt + 1000000 from (by have t1 : -1000000 ≤ t4_1.toInt ∧ t4_1.toInt ≤ 1000000 := btt4_1; have t2 : 0 ≤ t6_0.toInt ∧ t6_0.toInt ≤ 1000000 := btt6_0; omega)), (show t6_0.toInt ≤ y327.toInt from (by have t1 : t6_0.toInt ≤ y323.toInt := b332; have t2 : y323.toInt + 1 ≤ y327.toInt := b339; omega)), (show y327.toInt ≤ t6_0.toInt + 420005 from (by have t1 : y323.toInt ≤ t6_0.toInt + 2 := b333; have t2 : y327.toInt ≤ y323.toInt + 64 := b338; omega)), (show y327.toInt ≤ y323.toInt + 420005 from (by have t1 : y327.toInt ≤ y323.toInt + 64 := b338; omega)), (show (y322, y323, y324, y325, t4_0, t4_1, t5_0, y327, f328) = (F_Pri_writeBody t0_0 t0_1 t0_2 t0_3 t1_0 t2_0 t3_0 t4_0 t4_1 t5_0 t6_0 t7_0 t8_0 t8_1 t8_2 t8_3 t8_4 t8_5 t8_6 t9_0 t10_0 t11_0 t12_0 t13_0 t14_0 t15_0 t16_0 t17_0 t18_0 t19_0 t20_0 t21_0 t22_0 t23_0 t24_0 t25_0 t26_0) from Eq.trans (by rw [e349, e348, e347, e346, e345, e344, F_Pri_writeBody_c205.eq_1]) hR350)⟩) d_9_9_298
          ·
            have b355 : q_F (a96.toInt = 2) := (q_eqI c118)
            refine lv_aload_n hx hb d_9_9_163 rfl (lv_at hl 1 rfl) ?_
            refine q_get (ci := 11) (j := 8) (v := .ref (q 45)) C0 V i_Pri rfl rfl hT0 (by decide) w_393 rfl d_9_9_164 ?_
            refine lv_aload_n hx hb d_9_9_167 rfl (lv_at hl 1 rfl) ?_
            refine q_get (ci := 11) (j := 2) (v := .ref (q 42)) C0 V i_Pri rfl rfl hT0 (by decide) w_387 rfl d_9_9_168 ?_
            refine lv_aload_n hx hb d_9_9_171 rfl (lv_at hl 1 rfl) ?_
            refine q_get (ci := 11) (j := 11) (v := .int t0_3) C0 V i_Pri rfl rfl hT0 (by decide) w_396 rfl d_9_9_172 ?_
            refine q_lald C0 V hT2 (q_ix (x := t0_3.toInt) rfl (by have t1 : 0 ≤ t0_3.toInt := ob95; omega) (by have t1 : 0 ≤ t0_3.toInt := ob95; have t2 : -1 ≤ t0_3.toInt ∧ t0_3.toInt ≤ 8 := btt0_3; omega)) d_9_9_175 ?_
            obtain ⟨j356, e357⟩ := q_nm (t2_0 t0_3.toNatClampNeg : Int64)
            refine q_tl (v := j356) e357 ?_
            refine lv_l2i hx hb d_9_9_176 rfl ?_
            obtain ⟨a358, e359⟩ := q_nm (j356.toInt32 : Int32)
            refine q_ti (v := a358) e359 ?_
            refine q_gov V (q_runV (As := [.int a358]) (rest := []) (d := 1) (mc := 0) (ms := 0) (ci := 1) C0 V rfl LV_Pri_113 (X_She_add_p l D g q ws 45 4104 513 1000000 (n_h45 g q) a358 hI t6_0 hT6 t7_0 hT7 (by have y0 : (4104 : Int32).toInt = 4104 := rfl; have y1 : (513 : Int32).toInt = 513 := rfl; have y2 : (1000000 : Int32).toInt = 1000000 := rfl; have t1 : t6_0.toInt ≤ 0 := pre0; omega) _) rfl rfl hT6 rfl hl.1 rfl (Nat.le_of_ble_eq_true rfl) ⟨by decide, by decide⟩ ⟨Nat.le_of_ble_eq_true rfl, Nat.le_of_ble_eq_true rfl⟩ d_9_9_177) (fun u360 H locs hp361 V => ?_)
            obtain ⟨hI, hu369, y363, f364, hO362, hA365, b366, b367, hE368⟩ := hp361
            replace hO362 : u360[45]? = (some (q 45, .inr (1, [.ref (q 46), .int 4104, .int y363])) : Option (Nat × va_E)) := hO362
            replace hA365 : u360[46]? = (some (q 46, .inl (g 1, (513 : Int32).toNatClampNeg, .inr (.inl f364))) : Option (Nat × va_E)) := hA365
            obtain ⟨p370, e371⟩ : ∃ z, z = (F_She_add_p (4104 : Int32) (513 : Int32) (1000000 : Int32) a358 t6_0 t7_0) := ⟨_, rfl⟩
            have e372 : y363 = p370.1 := congrArg (fun z => z.1) (hE368.trans e371.symm)
            have e373 : f364 = p370.2 := congrArg (fun z => z.2) (hE368.trans e371.symm)
            replace b366 : q_F (t6_0.toInt + 1 ≤ y363.toInt) := b366
            replace b367 : q_F (y363.toInt ≤ t6_0.toInt + 1) := b367
            replace hT0 := (hu369 _ (by decide)).trans hT0
            replace hT1 := (hu369 _ (by decide)).trans hT1
            replace hT2 := (hu369 _ (by decide)).trans hT2
            replace hT3 := (hu369 _ (by decide)).trans hT3
            replace hT4 := (hu369 _ (by decide)).trans hT4
            replace hT5 := (hu369 _ (by decide)).trans hT5
            replace hT8 := (hu369 _ (by decide)).trans hT8
            replace hT9 := (hu369 _ (by decide)).trans hT9
            replace hT10 := (hu369 _ (by decide)).trans hT10
            replace hT11 := (hu369 _ (by decide)).trans hT11
            replace hT12 := (hu369 _ (by decide)).trans hT12
            replace hT13 := (hu369 _ (by decide)).trans hT13
            replace hT14 := (hu369 _ (by decide)).trans hT14
            replace hT15 := (hu369 _ (by decide)).trans hT15
            replace hT16 := (hu369 _ (by decide)).trans hT16
            replace hT17 := (hu369 _ (by decide)).trans hT17
            replace hT18 := (hu369 _ (by decide)).trans hT18
            replace hT19 := (hu369 _ (by decide)).trans hT19
            replace hT20 := (hu369 _ (by decide)).trans hT20
            replace hT21 := (hu369 _ (by decide)).trans hT21
            replace hT22 := (hu369 _ (by decide)).trans hT22
            replace hT23 := (hu369 _ (by decide)).trans hT23
            replace hT24 := (hu369 _ (by decide)).trans hT24
            replace hT25 := (hu369 _ (by decide)).trans hT25
            replace hT26 := (hu369 _ (by decide)).trans hT26
            replace hF := q_uc hF hu369 (by simp)
            have hR374 := (show F_Pri_writeBody_c177 t0_0 t0_1 t0_2 t0_3 t1_0 t2_0 t3_0 t4_0 t4_1 t5_0 t6_0 t7_0 t8_0 t8_1 t8_2 t8_3 t8_4 t8_5 t8_6 t9_0 t10_0 t11_0 t12_0 t13_0 t14_0 t15_0 t16_0 t17_0 t18_0 t19_0 t20_0 t21_0 t22_0 t23_0 t24_0 t25_0 t26_0 a96 p370 = (F_Pri_writeBody t0_0 t0_1 t0_2 t0_3 t1_0 t2_0 t3_0 t4_0 t4_1 t5_0 t6_0 t7_0 t8_0 t8_1 t8_2 t8_3 t8_4 t8_5 t8_6 t9_0 t10_0 t11_0 t12_0 t13_0 t14_0 t15_0 t16_0 t17_0 t18_0 t19_0 t20_0 t21_0 t22_0 t23_0 t24_0 t25_0 t26_0) from (by have c93x := c93; rw [e92] at c93x; have c105x := c105; rw [e104] at c105x; have c114x := c114; rw [e113] at c114x; have c116x := c116; rw [← e97] at c116x; have c118x := c118; rw [← e97] at c118x; rw [e371, ← e359, ← e357, ← e97, F_Pri_writeBody.eq_1, if_pos c93x, if_pos c105x, if_pos c114x, if_neg c116x, if_pos c118x]))
            have hS375 := (show True ∧ S_Pri_writeBody_c177 t0_0 t0_1 t0_2 t0_3 t1_0 t2_0 t3_0 t4_0 t4_1 t5_0 t6_0 t7_0 t8_0 t8_1 t8_2 t8_3 t8_4 t8_5 t8_6 t9_0 t10_0 t11_0 t12_0 t13_0 t14_0 t15_0 t16_0 t17_0 t18_0 t19_0 t20_0 t21_0 t22_0 t23_0 t24_0 t25_0 t26_0 a96 p370 from (by rw [e371, ← e359, ← e357, ← e97]; have h := hS; rw [S_Pri_writeBody.eq_1] at h; have c93x := c93; rw [e92] at c93x; rw [if_pos c93x] at h; replace h := q_s2 h; have c105x := c105; rw [e104] at c105x; rw [if_pos c105x] at h; have c114x := c114; rw [e113] at c114x; rw [if_pos c114x] at h; have c116x := c116; rw [← e97] at c116x; rw [if_neg c116x] at h; have c118x := c118; rw [← e97] at c118x; rw [if_pos c118x] at h; with_reducible exact h))
            refine lv_goto (tgt := 298) hx hb d_9_9_180 (by decide) ?_
            exact q_retv C0 V (⟨hI, hF, t0_0, t0_1, t0_2, t0_3, t4_0, t4_1, t5_0, y363, f364, hT0, hT4, hT5, hO362, hA365, (show t0_0.toInt ≤ t0_0.toInt from (by omega)), (show t0_0.toInt ≤ t0_0.toInt from (by omega)), (show t0_1.toInt ≤ t0_1.toInt + 1000000 from (by omega)), (show t0_1.toInt ≤ t0_1.toInt + 3 from (by omega)), (show t6_0.toInt ≤ t0_1.toInt + 1 from (by have t1 : -1 ≤ t0_1.toInt ∧ t0_1.toInt ≤ 1000000 := btt0_1; have t2 : t6_0.toInt ≤ 0 := pre0; omega)), (show t0_1.toInt ≤ t6_0.toInt + 1000000 from (by have t1 : -1 ≤ t0_1.toInt ∧ t0_1.toInt ≤ 1000000 := btt0_1; have t2 : 0 ≤ t6_0.toInt ∧ t6_0.toInt ≤ 1000000 := btt6_0; omega)), (show t0_2.toInt ≤ t0_2.toInt from (by omega)), (show t0_2.toInt ≤ t0_2.toInt from (by omega)), (show t0_3.toInt ≤ t0_3.toInt from (by omega)), (show t0_3.toInt ≤ t0_3.toInt from (by omega)), (show t4_0.toInt ≤ t4_0.toInt + 21 from (by omega)), (show t6_0.toInt ≤ t4_0.toInt from (by have t1 : 0 ≤ t4_0.toInt ∧ t4_0.toInt ≤ 1026 := btt4_0; have t2 : t6_0.toInt ≤ 0 := pre0; omega)), (show t4_0.toInt ≤ t6_0.toInt + 1026 from (by have t1 : 0 ≤ t4_0.toInt ∧ t4_0.toInt ≤ 1026 := btt4_0; have t2 : 0 ≤ t6_0.toInt ∧ t6_0.toInt ≤ 1000000 := btt6_0; omega)), (show t4_1.toInt ≤ t4_1.toInt + 1020000 from (by omega)), (show t4_1.toInt ≤ t4_1.toInt + 1100001 from (by omega)), (show t6_0.toInt ≤ t4_1.toInt + 1000000 from (by have t1 : -1000000 ≤ t4_1.toInt ∧ t4_1.toInt ≤ 1000000 := btt4_1; have t2 : t6_0.toInt ≤ 0 := pre0; omega)), (show t4_1.toInt ≤ t6_0.toInt + 1000000 from (by have t1 : -1000000 ≤ t4_1.toInt ∧ t4_1.toInt ≤ 1000000 := btt4_1; have t2 : 0 ≤ t6_0.toInt ∧ t6_0.toInt ≤ 1000000 := btt6_0; omega)), (show t6_0.toInt ≤ y363.toInt from (by have t1 : t6_0.toInt + 1 ≤ y363.toInt := b366; omega)), (show y363.toInt ≤ t6_0.toInt + 420005 from (by have t1 : y363.toInt ≤ t6_0.toInt + 1 := b367; omega)), (show y363.toInt ≤ t0_1.toInt + 420005 from (by have t1 : -1 ≤ t0_1.toInt ∧ t0_1.toInt ≤ 1000000 := btt0_1; have t2 : t6_0.toInt ≤ 0 := pre0; have t3 : y363.toInt ≤ t6_0.toInt + 1 := b367; omega)), (show (t0_0, t0_1, t0_2, t0_3, t4_0, t4_1, t5_0, y363, f364) = (F_Pri_writeBody t0_0 t0_1 t0_2 t0_3 t1_0 t2_0 t3_0 t4_0 t4_1 t5_0 t6_0 t7_0 t8_0 t8_1 t8_2 t8_3 t8_4 t8_5 t8_6 t9_0 t10_0 t11_0 t12_0 t13_0 t14_0 t15_0 t16_0 t17_0 t18_0 t19_0 t20_0 t21_0 t22_0 t23_0 t24_0 t25_0 t26_0) from Eq.trans (by rw [e373, e372, F_Pri_writeBody_c177.eq_1]) hR374)⟩) d_9_9_298
        ·
          have b379 : q_F (a96.toInt = 0) := (q_eqI c116)
          refine lv_aload_n hx hb d_9_9_146 rfl (lv_at hl 1 rfl) ?_
          refine q_get (ci := 11) (j := 8) (v := .ref (q 45)) C0 V i_Pri rfl rfl hT0 (by decide) w_393 rfl d_9_9_147 ?_
          refine q_ldcs (i := 15) C0 V rfl rfl d_9_9_150 ?_
          refine q_gov V (q_runV (As := [.ref (g (8 + 2 * 15))]) (rest := []) (d := 5) (mc := 0) (ms := 0) (ci := 1) C0 V rfl LV_Pri_165 (X_She_addText_15 l D g q ws 45 4104 513 1000000 (n_h45 g q)  hI t6_0 hT6 t7_0 hT7 (by have y0 : (4104 : Int32).toInt = 4104 := rfl; have y1 : (513 : Int32).toInt = 513 := rfl; have y2 : (1000000 : Int32).toInt = 1000000 := rfl; have t1 : t6_0.toInt ≤ 0 := pre0; omega) _) rfl rfl hT6 rfl hl.1 rfl (Nat.le_of_ble_eq_true rfl) ⟨by decide, by decide⟩ ⟨Nat.le_of_ble_eq_true rfl, Nat.le_of_ble_eq_true rfl⟩ d_9_9_152) (fun u380 H locs hp381 V => ?_)
          obtain ⟨hI, hu389, y383, f384, hO382, hA385, b386, b387, hE388⟩ := hp381
          replace hO382 : u380[45]? = (some (q 45, .inr (1, [.ref (q 46), .int 4104, .int y383])) : Option (Nat × va_E)) := hO382
          replace hA385 : u380[46]? = (some (q 46, .inl (g 1, (513 : Int32).toNatClampNeg, .inr (.inl f384))) : Option (Nat × va_E)) := hA385
          obtain ⟨p390, e391⟩ : ∃ z, z = (F_She_addText_15 (4104 : Int32) (513 : Int32) (1000000 : Int32) t6_0 t7_0) := ⟨_, rfl⟩
          have e392 : y383 = p390.1 := congrArg (fun z => z.1) (hE388.trans e391.symm)
          have e393 : f384 = p390.2 := congrArg (fun z => z.2) (hE388.trans e391.symm)
          replace b386 : q_F (t6_0.toInt + 4 ≤ y383.toInt) := b386
          replace b387 : q_F (y383.toInt ≤ t6_0.toInt + 4) := b387
          replace hT0 := (hu389 _ (by decide)).trans hT0
          replace hT1 := (hu389 _ (by decide)).trans hT1
          replace hT2 := (hu389 _ (by decide)).trans hT2
          replace hT3 := (hu389 _ (by decide)).trans hT3
          replace hT4 := (hu389 _ (by decide)).trans hT4
          replace hT5 := (hu389 _ (by decide)).trans hT5
          replace hT8 := (hu389 _ (by decide)).trans hT8
          replace hT9 := (hu389 _ (by decide)).trans hT9
          replace hT10 := (hu389 _ (by decide)).trans hT10
          replace hT11 := (hu389 _ (by decide)).trans hT11
          replace hT12 := (hu389 _ (by decide)).trans hT12
          replace hT13 := (hu389 _ (by decide)).trans hT13
          replace hT14 := (hu389 _ (by decide)).trans hT14
          replace hT15 := (hu389 _ (by decide)).trans hT15
          replace hT16 := (hu389 _ (by decide)).trans hT16
          replace hT17 := (hu389 _ (by decide)).trans hT17
          replace hT18 := (hu389 _ (by decide)).trans hT18
          replace hT19 := (hu389 _ (by decide)).trans hT19
          replace hT20 := (hu389 _ (by decide)).trans hT20
          replace hT21 := (hu389 _ (by decide)).trans hT21
          replace hT22 := (hu389 _ (by decide)).trans hT22
          replace hT23 := (hu389 _ (by decide)).trans hT23
          replace hT24 := (hu389 _ (by decide)).trans hT24
          replace hT25 := (hu389 _ (by decide)).trans hT25
          replace hT26 := (hu389 _ (by decide)).trans hT26
          replace hF := q_uc hF hu389 (by simp)
          have hR394 := (show F_Pri_writeBody_c152 t0_0 t0_1 t0_2 t0_3 t1_0 t2_0 t3_0 t4_0 t4_1 t5_0 t6_0 t7_0 t8_0 t8_1 t8_2 t8_3 t8_4 t8_5 t8_6 t9_0 t10_0 t11_0 t12_0 t13_0 t14_0 t15_0 t16_0 t17_0 t18_0 t19_0 t20_0 t21_0 t22_0 t23_0 t24_0 t25_0 t26_0 a96 p390 = (F_Pri_writeBody t0_0 t0_1 t0_2 t0_3 t1_0 t2_0 t3_0 t4_0 t4_1 t5_0 t6_0 t7_0 t8_0 t8_1 t8_2 t8_3 t8_4 t8_5 t8_6 t9_0 t10_0 t11_0 t12_0 t13_0 t14_0 t15_0 t16_0 t17_0 t18_0 t19_0 t20_0 t21_0 t22_0 t23_0 t24_0 t25_0 t26_0) from (by have c93x := c93; rw [e92] at c93x; have c105x := c105; rw [e104] at c105x; have c114x := c114; rw [e113] at c114x; have c116x := c116; rw [← e97] at c116x; rw [e391, ← e97, F_Pri_writeBody.eq_1, if_pos c93x, if_pos c105x, if_pos c114x, if_pos c116x]))
          have hS395 := (show True ∧ S_Pri_writeBody_c152 t0_0 t0_1 t0_2 t0_3 t1_0 t2_0 t3_0 t4_0 t4_1 t5_0 t6_0 t7_0 t8_0 t8_1 t8_2 t8_3 t8_4 t8_5 t8_6 t9_0 t10_0 t11_0 t12_0 t13_0 t14_0 t15_0 t16_0 t17_0 t18_0 t19_0 t20_0 t21_0 t22_0 t23_0 t24_0 t25_0 t26_0 a96 p390 from (by rw [e391, ← e97]; have h := hS; rw [S_Pri_writeBody.eq_1] at h; have c93x := c93; rw [e92] at c93x; rw [if_pos c93x] at h; replace h := q_s2 h; have c105x := c105; rw [e104] at c105x; rw [if_pos c105x] at h; have c114x := c114; rw [e113] at c114x; rw [if_pos c114x] at h; have c116x := c116; rw [← e97] at c116x; rw [if_pos c116x] at h; with_reducible exact h))
          refine lv_goto (tgt := 298) hx hb d_9_9_155 (by decide) ?_
          exact q_retv C0 V (⟨hI, hF, t0_0, t0_1, t0_2, t0_3, t4_0, t4_1, t5_0, y383, f384, hT0, hT4, hT5, hO382, hA385, (show t0_0.toInt ≤ t0_0.toInt from (by omega)), (show t0_0.toInt ≤ t0_0.toInt from (by omega)), (show t0_1.toInt ≤ t0_1.toInt + 1000000 from (by omega)), (show t0_1.toInt ≤ t0_1.toInt + 3 from (by omega)), (show t6_0.toInt ≤ t0_1.toInt + 1 from (by have t1 : -1 ≤ t0_1.toInt ∧ t0_1.toInt ≤ 1000000 := btt0_1; have t2 : t6_0.toInt ≤ 0 := pre0; omega)), (show t0_1.toInt ≤ t6_0.toInt + 1000000 from (by have t1 : -1 ≤ t0_1.toInt ∧ t0_1.toInt ≤ 1000000 := btt0_1; have t2 : 0 ≤ t6_0.toInt ∧ t6_0.toInt ≤ 1000000 := btt6_0; omega)), (show t0_2.toInt ≤ t0_2.toInt from (by omega)), (show t0_2.toInt ≤ t0_2.toInt from (by omega)), (show t0_3.toInt ≤ t0_3.toInt from (by omega)), (show t0_3.toInt ≤ t0_3.toInt from (by omega)), (show t4_0.toInt ≤ t4_0.toInt + 21 from (by omega)), (show t6_0.toInt ≤ t4_0.toInt from (by have t1 : 0 ≤ t4_0.toInt ∧ t4_0.toInt ≤ 1026 := btt4_0; have t2 : t6_0.toInt ≤ 0 := pre0; omega)), (show t4_0.toInt ≤ t6_0.toInt + 1026 from (by have t1 : 0 ≤ t4_0.toInt ∧ t4_0.toInt ≤ 1026 := btt4_0; have t2 : 0 ≤ t6_0.toInt ∧ t6_0.toInt ≤ 1000000 := btt6_0; omega)), (show t4_1.toInt ≤ t4_1.toInt + 1020000 from (by omega)), (show t4_1.toInt ≤ t4_1.toInt + 1100001 from (by omega)), (show t6_0.toInt ≤ t4_1.toInt + 1000000 from (by have t1 : -1000000 ≤ t4_1.toInt ∧ t4_1.toInt ≤ 1000000 := btt4_1; have t2 : t6_0.toInt ≤ 0 := pre0; omega)), (show t4_1.toInt ≤ t6_0.toInt + 1000000 from (by have t1 : -1000000 ≤ t4_1.toInt ∧ t4_1.toInt ≤ 1000000 := btt4_1; have t2 : 0 ≤ t6_0.toInt ∧ t6_0.toInt ≤ 1000000 := btt6_0; omega)), (show t6_0.toInt ≤ y383.toInt from (by have t1 : t6_0.toInt + 4 ≤ y383.toInt := b386; omega)), (show y383.toInt ≤ t6_0.toInt + 420005 from (by have t1 : y383.toInt ≤ t6_0.toInt + 4 := b387; omega)), (show y383.toInt ≤ t0_1.toInt + 420005 from (by have t1 : -1 ≤ t0_1.toInt ∧ t0_1.toInt ≤ 1000000 := btt0_1; have t2 : t6_0.toInt ≤ 0 := pre0; have t3 : y383.toInt ≤ t6_0.toInt + 4 := b387; omega)), (show (t0_0, t0_1, t0_2, t0_3, t4_0, t4_1, t5_0, y383, f384) = (F_Pri_writeBody t0_0 t0_1 t0_2 t0_3 t1_0 t2_0 t3_0 t4_0 t4_1 t5_0 t6_0 t7_0 t8_0 t8_1 t8_2 t8_3 t8_4 t8_5 t8_6 t9_0 t10_0 t11_0 t12_0 t13_0 t14_0 t15_0 t16_0 t17_0 t18_0 t19_0 t20_0 t21_0 t22_0 t23_0 t24_0 t25_0 t26_0) from Eq.trans (by rw [e393, e392, F_Pri_writeBody_c152.eq_1]) hR394)⟩) d_9_9_298
      ·
        have b399 : q_F (a109.toInt ≠ 0) := (q_neI c114)
        refine lv_aload_n hx hb d_9_9_127 rfl (lv_at hl 1 rfl) ?_
        refine lv_aload_n hx hb d_9_9_128 rfl (lv_at hl 1 rfl) ?_
        refine q_get (ci := 11) (j := 11) (v := .int t0_3) C0 V i_Pri rfl rfl hT0 (by decide) w_396 rfl d_9_9_129 ?_
        refine q_gov V (q_runV (As := [.int t0_3]) (rest := []) (d := 6) (mc := 0) (ms := 0) (ci := 11) C0 V rfl LV_Pri_174 (X_Pri_writeAnything l D g q ws  t0_3 hI t0_0 t0_1 t0_2 t0_3 hT0 t1_0 hT1 t2_0 hT2 t3_0 hT3 t4_0 t4_1 hT4 t5_0 hT5 t6_0 hT6 t7_0 hT7 t9_0 hT9 t10_0 hT10 t11_0 hT11 t12_0 hT12 t13_0 hT13 t14_0 hT14 t15_0 hT15 t16_0 hT16 t17_0 hT17 t18_0 hT18 t19_0 hT19 t20_0 hT20 t21_0 hT21 t22_0 hT22 t23_0 hT23 t24_0 hT24 t25_0 hT25 t26_0 hT26 (by have t1 : 0 ≤ t0_3.toInt := ob95; omega) (by have t1 : -1 ≤ t0_3.toInt ∧ t0_3.toInt ≤ 8 := btt0_3; omega) (by have t1 : t6_0.toInt ≤ 0 := pre0; omega) _) rfl rfl hT0 rfl hl.1 rfl (Nat.le_of_ble_eq_true rfl) ⟨by decide, by decide⟩ ⟨Nat.le_of_ble_eq_true rfl, Nat.le_of_ble_eq_true rfl⟩ d_9_9_132) (fun u400 H locs hp401 V => ?_)
        obtain ⟨hI, hu422, y403, y404, f405, y408, f409, hO402, hA406, hO407, hA410, b411, b412, b413, b414, b415, b416, b417, b418, b419, b420, hE421⟩ := hp401
        replace hO402 : u400[36]? = (some (q 36, .inr (7, [.int y403, .int y404, .ref (q 37)])) : Option (Nat × va_E)) := hO402
        replace hA406 : u400[37]? = (some (q 37, .inl (g 2, 1026, .inl f405)) : Option (Nat × va_E)) := hA406
        replace hO407 : u400[45]? = (some (q 45, .inr (1, [.ref (q 46), .int 4104, .int y408])) : Option (Nat × va_E)) := hO407
        replace hA410 : u400[46]? = (some (q 46, .inl (g 1, (513 : Int32).toNatClampNeg, .inr (.inl f409))) : Option (Nat × va_E)) := hA410
        obtain ⟨p423, e424⟩ : ∃ z, z = (F_Pri_writeAnything t0_3 t0_0 t0_1 t0_2 t0_3 t1_0 t2_0 t3_0 t4_0 t4_1 t5_0 t6_0 t7_0 t9_0 t10_0 t11_0 t12_0 t13_0 t14_0 t15_0 t16_0 t17_0 t18_0 t19_0 t20_0 t21_0 t22_0 t23_0 t24_0 t25_0 t26_0) := ⟨_, rfl⟩
        have e425 : y403 = p423.1 := congrArg (fun z => z.1) (hE421.trans e424.symm)
        have e426 : y404 = p423.2.1 := congrArg (fun z => z.2.1) (hE421.trans e424.symm)
        have e427 : f405 = p423.2.2.1 := congrArg (fun z => z.2.2.1) (hE421.trans e424.symm)
        have e428 : y408 = p423.2.2.2.1 := congrArg (fun z => z.2.2.2.1) (hE421.trans e424.symm)
        have e429 : f409 = p423.2.2.2.2 := congrArg (fun z => z.2.2.2.2) (hE421.trans e424.symm)
        replace b411 : q_F (0 ≤ y403.toInt) := b411
        replace b412 : q_F (y403.toInt ≤ 1026) := b412
        replace b413 : q_F (0 ≤ y404.toInt + 1000000) := b413
        replace b414 : q_F (y404.toInt ≤ 1000000) := b414
        replace b415 : q_F (y403.toInt ≤ t4_0.toInt + 20) := b415
        replace b416 : q_F (t4_1.toInt ≤ y404.toInt + 1020000) := b416
        replace b417 : q_F (y404.toInt ≤ t4_1.toInt + 1020019) := b417
        replace b418 : q_F (t6_0.toInt ≤ y408.toInt) := b418
        replace b419 : q_F (y408.toInt ≤ t6_0.toInt + 420004) := b419
        replace b420 : q_F (y408.toInt ≤ y404.toInt + 1000074) := b420
        replace hT0 := (hu422 _ (by decide)).trans hT0
        replace hT1 := (hu422 _ (by decide)).trans hT1
        replace hT2 := (hu422 _ (by decide)).trans hT2
        replace hT3 := (hu422 _ (by decide)).trans hT3
        replace hT8 := (hu422 _ (by decide)).trans hT8
        replace hT9 := (hu422 _ (by decide)).trans hT9
        replace hT10 := (hu422 _ (by decide)).trans hT10
        replace hT11 := (hu422 _ (by decide)).trans hT11
        replace hT12 := (hu422 _ (by decide)).trans hT12
        replace hT13 := (hu422 _ (by decide)).trans hT13
        replace hT14 := (hu422 _ (by decide)).trans hT14
        replace hT15 := (hu422 _ (by decide)).trans hT15
        replace hT16 := (hu422 _ (by decide)).trans hT16
        replace hT17 := (hu422 _ (by decide)).trans hT17
        replace hT18 := (hu422 _ (by decide)).trans hT18
        replace hT19 := (hu422 _ (by decide)).trans hT19
        replace hT20 := (hu422 _ (by decide)).trans hT20
        replace hT21 := (hu422 _ (by decide)).trans hT21
        replace hT22 := (hu422 _ (by decide)).trans hT22
        replace hT23 := (hu422 _ (by decide)).trans hT23
        replace hT24 := (hu422 _ (by decide)).trans hT24
        replace hT25 := (hu422 _ (by decide)).trans hT25
        replace hT26 := (hu422 _ (by decide)).trans hT26
        replace hF := q_uc hF hu422 (by simp)
        have hR430 := (show F_Pri_writeBody_c132 t0_0 t0_1 t0_2 t0_3 t1_0 t2_0 t3_0 t4_0 t4_1 t5_0 t6_0 t7_0 t8_0 t8_1 t8_2 t8_3 t8_4 t8_5 t8_6 t9_0 t10_0 t11_0 t12_0 t13_0 t14_0 t15_0 t16_0 t17_0 t18_0 t19_0 t20_0 t21_0 t22_0 t23_0 t24_0 t25_0 t26_0 a96 p423 = (F_Pri_writeBody t0_0 t0_1 t0_2 t0_3 t1_0 t2_0 t3_0 t4_0 t4_1 t5_0 t6_0 t7_0 t8_0 t8_1 t8_2 t8_3 t8_4 t8_5 t8_6 t9_0 t10_0 t11_0 t12_0 t13_0 t14_0 t15_0 t16_0 t17_0 t18_0 t19_0 t20_0 t21_0 t22_0 t23_0 t24_0 t25_0 t26_0) from (by have c93x := c93; rw [e92] at c93x; have c105x := c105; rw [e104] at c105x; have c114x := c114; rw [e113] at c114x; rw [e424, ← e97, F_Pri_writeBody.eq_1, if_pos c93x, if_pos c105x, if_neg c114x]))
        have hS431 := (show True ∧ S_Pri_writeBody_c132 t0_0 t0_1 t0_2 t0_3 t1_0 t2_0 t3_0 t4_0 t4_1 t5_0 t6_0 t7_0 t8_0 t8_1 t8_2 t8_3 t8_4 t8_5 t8_6 t9_0 t10_0 t11_0 t12_0 t13_0 t14_0 t15_0 t16_0 t17_0 t18_0 t19_0 t20_0 t21_0 t22_0 t23_0 t24_0 t25_0 t26_0 a96 p423 from (by rw [e424, ← e97]; have h := hS; rw [S_Pri_writeBody.eq_1] at h; have c93x := c93; rw [e92] at c93x; rw [if_pos c93x] at h; replace h := q_s2 h; have c105x := c105; rw [e104] at c105x; rw [if_pos c105x] at h; have c114x := c114; rw [e113] at c114x; rw [if_neg c114x] at h; with_reducible exact h))
        refine lv_aload_n hx hb d_9_9_135 rfl (lv_at hl 1 rfl) ?_
        refine q_gov V (q_runV (As := []) (rest := []) (d := 3) (mc := 0) (ms := 0) (ci := 11) C0 V rfl LV_Pri_169 (X_Pri_cutBody l D g q u400   hI y408 hO407 f409 hA410 t8_0 t8_1 t8_2 t8_3 t8_4 t8_5 t8_6 hT8  _) rfl rfl hT0 rfl hl.1 rfl (Nat.le_of_ble_eq_true rfl) ⟨by decide, by decide⟩ ⟨Nat.le_of_ble_eq_true rfl, Nat.le_of_ble_eq_true rfl⟩ d_9_9_136) (fun u435 H locs hp436 V => ?_)
        obtain ⟨hI, hu442, y438, hO437, b439, b440, hE441⟩ := hp436
        replace hO437 : u435[45]? = (some (q 45, .inr (1, [.ref (q 46), .int 4104, .int y438])) : Option (Nat × va_E)) := hO437
        have e443 : y438 = (F_Pri_cutBody y408 f409 t8_0 t8_1 t8_2 t8_3 t8_4 t8_5 t8_6) := hE441
        replace b439 : q_F (0 ≤ y438.toInt) := b439
        replace b440 : q_F (y438.toInt ≤ y408.toInt) := b440
        replace hT0 := (hu442 _ (by decide)).trans hT0
        replace hT1 := (hu442 _ (by decide)).trans hT1
        replace hT2 := (hu442 _ (by decide)).trans hT2
        replace hT3 := (hu442 _ (by decide)).trans hT3
        replace hO402 := (hu442 _ (by decide)).trans hO402
        replace hA406 := (hu442 _ (by decide)).trans hA406
        replace hA410 := (hu442 _ (by decide)).trans hA410
        replace hT8 := (hu442 _ (by decide)).trans hT8
        replace hT9 := (hu442 _ (by decide)).trans hT9
        replace hT10 := (hu442 _ (by decide)).trans hT10
        replace hT11 := (hu442 _ (by decide)).trans hT11
        replace hT12 := (hu442 _ (by decide)).trans hT12
        replace hT13 := (hu442 _ (by decide)).trans hT13
        replace hT14 := (hu442 _ (by decide)).trans hT14
        replace hT15 := (hu442 _ (by decide)).trans hT15
        replace hT16 := (hu442 _ (by decide)).trans hT16
        replace hT17 := (hu442 _ (by decide)).trans hT17
        replace hT18 := (hu442 _ (by decide)).trans hT18
        replace hT19 := (hu442 _ (by decide)).trans hT19
        replace hT20 := (hu442 _ (by decide)).trans hT20
        replace hT21 := (hu442 _ (by decide)).trans hT21
        replace hT22 := (hu442 _ (by decide)).trans hT22
        replace hT23 := (hu442 _ (by decide)).trans hT23
        replace hT24 := (hu442 _ (by decide)).trans hT24
        replace hT25 := (hu442 _ (by decide)).trans hT25
        replace hT26 := (hu442 _ (by decide)).trans hT26
        replace hF := q_uc hF hu442 (by simp)
        refine lv_goto (tgt := 298) hx hb d_9_9_139 (by decide) ?_
        exact q_retv C0 V (⟨hI, hF, t0_0, t0_1, t0_2, t0_3, y403, y404, f405, y438, f409, hT0, hO402, hA406, hO437, hA410, (show t0_0.toInt ≤ t0_0.toInt from (by omega)), (show t0_0.toInt ≤ t0_0.toInt from (by omega)), (show t0_1.toInt ≤ t0_1.toInt + 1000000 from (by omega)), (show t0_1.toInt ≤ t0_1.toInt + 3 from (by omega)), (show t6_0.toInt ≤ t0_1.toInt + 1 from (by have t1 : -1 ≤ t0_1.toInt ∧ t0_1.toInt ≤ 1000000 := btt0_1; have t2 : t6_0.toInt ≤ 0 := pre0; omega)), (show t0_1.toInt ≤ t6_0.toInt + 1000000 from (by have t1 : -1 ≤ t0_1.toInt ∧ t0_1.toInt ≤ 1000000 := btt0_1; have t2 : 0 ≤ t6_0.toInt ∧ t6_0.toInt ≤ 1000000 := btt6_0; omega)), (show t0_2.toInt ≤ t0_2.toInt from (by omega)), (show t0_2.toInt ≤ t0_2.toInt from (by omega)), (show t0_3.toInt ≤ t0_3.toInt from (by omega)), (show t0_3.toInt ≤ t0_3.toInt from (by omega)), (show y403.toInt ≤ t4_0.toInt + 21 from (by have t1 : y403.toInt ≤ t4_0.toInt + 20 := b415; omega)), (show t6_0.toInt ≤ y403.toInt from (by have t1 : t6_0.toInt ≤ 0 := pre0; have t2 : 0 ≤ y403.toInt := b411; omega)), (show y403.toInt ≤ t6_0.toInt + 1026 from (by have t1 : 0 ≤ t6_0.toInt ∧ t6_0.toInt ≤ 1000000 := btt6_0; have t2 : y403.toInt ≤ 1026 := b412; omega)), (show t4_1.toInt ≤ y404.toInt + 1020000 from (by have t1 : t4_1.toInt ≤ y404.toInt + 1020000 := b416; omega)), (show y404.toInt ≤ t4_1.toInt + 1100001 from (by have t1 : y404.toInt ≤ t4_1.toInt + 1020019 := b417; omega)), (show t6_0.toInt ≤ y404.toInt + 1000000 from (by have t1 : t6_0.toInt ≤ 0 := pre0; have t2 : 0 ≤ y404.toInt + 1000000 := b413; omega)), (show y404.toInt ≤ t6_0.toInt + 1000000 from (by have t1 : 0 ≤ t6_0.toInt ∧ t6_0.toInt ≤ 1000000 := btt6_0; have t2 : y404.toInt ≤ 1000000 := b414; omega)), (show t6_0.toInt ≤ y438.toInt from (by have t1 : t6_0.toInt ≤ 0 := pre0; have t2 : 0 ≤ y438.toInt := b439; omega)), (show y438.toInt ≤ t6_0.toInt + 420005 from (by have t1 : y408.toInt ≤ t6_0.toInt + 420004 := b419; have t2 : y438.toInt ≤ y408.toInt := b440; omega)), (show y438.toInt ≤ t0_1.toInt + 420005 from (by have t1 : -1 ≤ t0_1.toInt ∧ t0_1.toInt ≤ 1000000 := btt0_1; have t2 : t6_0.toInt ≤ 0 := pre0; have t3 : y408.toInt ≤ t6_0.toInt + 420004 := b419; have t4 : y438.toInt ≤ y408.toInt := b440; omega)), (show (t0_0, t0_1, t0_2, t0_3, y403, y404, f405, y438, f409) = (F_Pri_writeBody t0_0 t0_1 t0_2 t0_3 t1_0 t2_0 t3_0 t4_0 t4_1 t5_0 t6_0 t7_0 t8_0 t8_1 t8_2 t8_3 t8_4 t8_5 t8_6 t9_0 t10_0 t11_0 t12_0 t13_0 t14_0 t15_0 t16_0 t17_0 t18_0 t19_0 t20_0 t21_0 t22_0 t23_0 t24_0 t25_0 t26_0) from Eq.trans (by rw [e443, e429, e428, e427, e426, e425, F_Pri_writeBody_c132.eq_1]) hR430)⟩) d_9_9_298
    ·
      have b444 : q_F (a100.toInt ≠ 0) := (q_neI c105)
      refine lv_iload_n hx hb d_9_9_61 rfl (lv_at hl 0 rfl) ?_
      refine q_join (X := Int32) (fun z H locs ls _ => q_F (t6_0.toInt ≤ z.toInt) ∧ q_F (z.toInt ≤ t6_0.toInt + 1) ∧ q_Wd D g (va_A ws sz) s ws H locs ∧ lv_has ls 3 [(0, .ref (q 40))] ∧ F_Pri_writeBody_J89 t0_0 t0_1 t0_2 t0_3 t1_0 t2_0 t3_0 t4_0 t4_1 t5_0 t6_0 t7_0 t8_0 t8_1 t8_2 t8_3 t8_4 t8_5 t8_6 t9_0 t10_0 t11_0 t12_0 t13_0 t14_0 t15_0 t16_0 t17_0 t18_0 t19_0 t20_0 t21_0 t22_0 t23_0 t24_0 t25_0 t26_0 z = (F_Pri_writeBody t0_0 t0_1 t0_2 t0_3 t1_0 t2_0 t3_0 t4_0 t4_1 t5_0 t6_0 t7_0 t8_0 t8_1 t8_2 t8_3 t8_4 t8_5 t8_6 t9_0 t10_0 t11_0 t12_0 t13_0 t14_0 t15_0 t16_0 t17_0 t18_0 t19_0 t20_0 t21_0 t22_0 t23_0 t24_0 t25_0 t26_0) ∧ True ∧ S_Pri_writeBody_J89 t0_0 t0_1 t0_2 t0_3 t1_0 t2_0 t3_0 t4_0 t4_1 t5_0 t6_0 t7_0 t8_0 t8_1 t8_2 t8_3 t8_4 t8_5 t8_6 t9_0 t10_0 t11_0 t12_0 t13_0 t14_0 t15_0 t16_0 t17_0 t18_0 t19_0 t20_0 t21_0 t22_0 t23_0 t24_0 t25_0 t26_0 z) (fun z => [.int z]) 89 0 0 ?_ ?_
      ·
        rintro lx445 H locs ls _ ⟨i474, i475, V, hl, hR476, hS477⟩
        replace i474 : q_F (t6_0.toInt ≤ lx445.toInt) := i474
        replace i475 : q_F (lx445.toInt ≤ t6_0.toInt + 1) := i475
        replace hl : lv_has ls 3 [(0, .ref (q 40))] := hl
        refine lv_istore_n (lv' := [(2, .int lx445), (0, .ref (q 40))]) hx hb d_9_9_89 rfl hl (by decide) rfl (fun ls hl => ?_)
        refine lv_aload_n hx hb d_9_9_90 rfl (lv_at hl 1 rfl) ?_
        refine q_get (ci := 11) (j := 8) (v := .ref (q 45)) C0 V i_Pri rfl rfl hT0 (by decide) w_393 rfl d_9_9_91 ?_
        refine lv_iload_n hx hb d_9_9_94 rfl (lv_at hl 0 rfl) ?_
        refine lv_if_eq (tgt := 103) hx hb d_9_9_95 (by decide) (fun c481 => ?_) (fun c481 => ?_)
        ·
          have b482 : q_F (lx445.toInt = 0) := (q_eqI c481)
          refine q_ldcs (i := 13) C0 V rfl rfl d_9_9_103 ?_
          refine q_gov V (q_runV (As := [.ref (g (8 + 2 * 13))]) (rest := []) (d := 5) (mc := 0) (ms := 0) (ci := 1) C0 V rfl LV_Pri_165 (X_She_addText_13 l D g q ws 45 4104 513 1000000 (n_h45 g q)  hI t6_0 hT6 t7_0 hT7 (by have y0 : (4104 : Int32).toInt = 4104 := rfl; have y1 : (513 : Int32).toInt = 513 := rfl; have y2 : (1000000 : Int32).toInt = 1000000 := rfl; have t1 : t6_0.toInt ≤ 0 := pre0; omega) _) rfl rfl hT6 rfl hl.1 rfl (Nat.le_of_ble_eq_true rfl) ⟨by decide, by decide⟩ ⟨Nat.le_of_ble_eq_true rfl, Nat.le_of_ble_eq_true rfl⟩ d_9_9_105) (fun u483 H locs hp484 V => ?_)
          obtain ⟨hI, hu492, y486, f487, hO485, hA488, b489, b490, hE491⟩ := hp484
          replace hO485 : u483[45]? = (some (q 45, .inr (1, [.ref (q 46), .int 4104, .int y486])) : Option (Nat × va_E)) := hO485
          replace hA488 : u483[46]? = (some (q 46, .inl (g 1, (513 : Int32).toNatClampNeg, .inr (.inl f487))) : Option (Nat × va_E)) := hA488
          obtain ⟨p493, e494⟩ : ∃ z, z = (F_She_addText_13 (4104 : Int32) (513 : Int32) (1000000 : Int32) t6_0 t7_0) := ⟨_, rfl⟩
          have e495 : y486 = p493.1 := congrArg (fun z => z.1) (hE491.trans e494.symm)
          have e496 : f487 = p493.2 := congrArg (fun z => z.2) (hE491.trans e494.symm)
          replace b489 : q_F (t6_0.toInt + 4 ≤ y486.toInt) := b489
          replace b490 : q_F (y486.toInt ≤ t6_0.toInt + 4) := b490
          replace hT0 := (hu492 _ (by decide)).trans hT0
          replace hT1 := (hu492 _ (by decide)).trans hT1
          replace hT2 := (hu492 _ (by decide)).trans hT2
          replace hT3 := (hu492 _ (by decide)).trans hT3
          replace hT4 := (hu492 _ (by decide)).trans hT4
          replace hT5 := (hu492 _ (by decide)).trans hT5
          replace hT8 := (hu492 _ (by decide)).trans hT8
          replace hT9 := (hu492 _ (by decide)).trans hT9
          replace hT10 := (hu492 _ (by decide)).trans hT10
          replace hT11 := (hu492 _ (by decide)).trans hT11
          replace hT12 := (hu492 _ (by decide)).trans hT12
          replace hT13 := (hu492 _ (by decide)).trans hT13
          replace hT14 := (hu492 _ (by decide)).trans hT14
          replace hT15 := (hu492 _ (by decide)).trans hT15
          replace hT16 := (hu492 _ (by decide)).trans hT16
          replace hT17 := (hu492 _ (by decide)).trans hT17
          replace hT18 := (hu492 _ (by decide)).trans hT18
          replace hT19 := (hu492 _ (by decide)).trans hT19
          replace hT20 := (hu492 _ (by decide)).trans hT20
          replace hT21 := (hu492 _ (by decide)).trans hT21
          replace hT22 := (hu492 _ (by decide)).trans hT22
          replace hT23 := (hu492 _ (by decide)).trans hT23
          replace hT24 := (hu492 _ (by decide)).trans hT24
          replace hT25 := (hu492 _ (by decide)).trans hT25
          replace hT26 := (hu492 _ (by decide)).trans hT26
          replace hF := q_uc hF hu492 (by simp)
          have hR497 := (show F_Pri_writeBody_c105 t0_0 t0_1 t0_2 t0_3 t1_0 t2_0 t3_0 t4_0 t4_1 t5_0 t6_0 t7_0 t8_0 t8_1 t8_2 t8_3 t8_4 t8_5 t8_6 t9_0 t10_0 t11_0 t12_0 t13_0 t14_0 t15_0 t16_0 t17_0 t18_0 t19_0 t20_0 t21_0 t22_0 t23_0 t24_0 t25_0 t26_0 lx445 p493 = (F_Pri_writeBody t0_0 t0_1 t0_2 t0_3 t1_0 t2_0 t3_0 t4_0 t4_1 t5_0 t6_0 t7_0 t8_0 t8_1 t8_2 t8_3 t8_4 t8_5 t8_6 t9_0 t10_0 t11_0 t12_0 t13_0 t14_0 t15_0 t16_0 t17_0 t18_0 t19_0 t20_0 t21_0 t22_0 t23_0 t24_0 t25_0 t26_0) from Eq.trans (by rw [e494, F_Pri_writeBody_J89.eq_1, if_pos c481]) hR476)
          have hS498 := (show True ∧ S_Pri_writeBody_c105 t0_0 t0_1 t0_2 t0_3 t1_0 t2_0 t3_0 t4_0 t4_1 t5_0 t6_0 t7_0 t8_0 t8_1 t8_2 t8_3 t8_4 t8_5 t8_6 t9_0 t10_0 t11_0 t12_0 t13_0 t14_0 t15_0 t16_0 t17_0 t18_0 t19_0 t20_0 t21_0 t22_0 t23_0 t24_0 t25_0 t26_0 lx445 p493 from (by rw [e494]; have h := hS477; rw [S_Pri_writeBody_J89.eq_1] at h; rw [if_pos c481] at h; with_reducible exact h))
          refine lv_aload_n hx hb d_9_9_108 rfl (lv_at hl 1 rfl) ?_
          refine q_gov V (q_runV (As := []) (rest := []) (d := 3) (mc := 0) (ms := 0) (ci := 11) C0 V rfl LV_Pri_169 (X_Pri_cutBody l D g q u483   hI y486 hO485 f487 hA488 t8_0 t8_1 t8_2 t8_3 t8_4 t8_5 t8_6 hT8  _) rfl rfl hT0 rfl hl.1 rfl (Nat.le_of_ble_eq_true rfl) ⟨by decide, by decide⟩ ⟨Nat.le_of_ble_eq_true rfl, Nat.le_of_ble_eq_true rfl⟩ d_9_9_109) (fun u502 H locs hp503 V => ?_)
          obtain ⟨hI, hu509, y505, hO504, b506, b507, hE508⟩ := hp503
          replace hO504 : u502[45]? = (some (q 45, .inr (1, [.ref (q 46), .int 4104, .int y505])) : Option (Nat × va_E)) := hO504
          have e510 : y505 = (F_Pri_cutBody y486 f487 t8_0 t8_1 t8_2 t8_3 t8_4 t8_5 t8_6) := hE508
          replace b506 : q_F (0 ≤ y505.toInt) := b506
          replace b507 : q_F (y505.toInt ≤ y486.toInt) := b507
          replace hT0 := (hu509 _ (by decide)).trans hT0
          replace hT1 := (hu509 _ (by decide)).trans hT1
          replace hT2 := (hu509 _ (by decide)).trans hT2
          replace hT3 := (hu509 _ (by decide)).trans hT3
          replace hT4 := (hu509 _ (by decide)).trans hT4
          replace hT5 := (hu509 _ (by decide)).trans hT5
          replace hA488 := (hu509 _ (by decide)).trans hA488
          replace hT8 := (hu509 _ (by decide)).trans hT8
          replace hT9 := (hu509 _ (by decide)).trans hT9
          replace hT10 := (hu509 _ (by decide)).trans hT10
          replace hT11 := (hu509 _ (by decide)).trans hT11
          replace hT12 := (hu509 _ (by decide)).trans hT12
          replace hT13 := (hu509 _ (by decide)).trans hT13
          replace hT14 := (hu509 _ (by decide)).trans hT14
          replace hT15 := (hu509 _ (by decide)).trans hT15
          replace hT16 := (hu509 _ (by decide)).trans hT16
          replace hT17 := (hu509 _ (by decide)).trans hT17
          replace hT18 := (hu509 _ (by decide)).trans hT18
          replace hT19 := (hu509 _ (by decide)).trans hT19
          replace hT20 := (hu509 _ (by decide)).trans hT20
          replace hT21 := (hu509 _ (by decide)).trans hT21
          replace hT22 := (hu509 _ (by decide)).trans hT22
          replace hT23 := (hu509 _ (by decide)).trans hT23
          replace hT24 := (hu509 _ (by decide)).trans hT24
          replace hT25 := (hu509 _ (by decide)).trans hT25
          replace hT26 := (hu509 _ (by decide)).trans hT26
          replace hF := q_uc hF hu509 (by simp)
          refine lv_goto (tgt := 298) hx hb d_9_9_112 (by decide) ?_
          exact q_retv C0 V (⟨hI, hF, t0_0, t0_1, t0_2, t0_3, t4_0, t4_1, t5_0, y505, f487, hT0, hT4, hT5, hO504, hA488, (show t0_0.toInt ≤ t0_0.toInt from (by omega)), (show t0_0.toInt ≤ t0_0.toInt from (by omega)), (show t0_1.toInt ≤ t0_1.toInt + 1000000 from (by omega)), (show t0_1.toInt ≤ t0_1.toInt + 3 from (by omega)), (show t6_0.toInt ≤ t0_1.toInt + 1 from (by have t1 : -1 ≤ t0_1.toInt ∧ t0_1.toInt ≤ 1000000 := btt0_1; have t2 : t6_0.toInt ≤ 0 := pre0; omega)), (show t0_1.toInt ≤ t6_0.toInt + 1000000 from (by have t1 : -1 ≤ t0_1.toInt ∧ t0_1.toInt ≤ 1000000 := btt0_1; have t2 : 0 ≤ t6_0.toInt ∧ t6_0.toInt ≤ 1000000 := btt6_0; omega)), (show t0_2.toInt ≤ t0_2.toInt from (by omega)), (show t0_2.toInt ≤ t0_2.toInt from (by omega)), (show t0_3.toInt ≤ t0_3.toInt from (by omega)), (show t0_3.toInt ≤ t0_3.toInt from (by omega)), (show t4_0.toInt ≤ t4_0.toInt + 21 from (by omega)), (show t6_0.toInt ≤ t4_0.toInt from (by have t1 : 0 ≤ t4_0.toInt ∧ t4_0.toInt ≤ 1026 := btt4_0; have t2 : t6_0.toInt ≤ 0 := pre0; omega)), (show t4_0.toInt ≤ t6_0.toInt + 1026 from (by have t1 : 0 ≤ t4_0.toInt ∧ t4_0.toInt ≤ 1026 := btt4_0; have t2 : 0 ≤ t6_0.toInt ∧ t6_0.toInt ≤ 1000000 := btt6_0; omega)), (show t4_1.toInt ≤ t4_1.toInt + 1020000 from (by omega)), (show t4_1.toInt ≤ t4_1.toInt + 1100001 from (by omega)), (show t6_0.toInt ≤ t4_1.toInt + 1000000 from (by have t1 : -1000000 ≤ t4_1.toInt ∧ t4_1.toInt ≤ 1000000 := btt4_1; have t2 : t6_0.toInt ≤ 0 := pre0; omega)), (show t4_1.toInt ≤ t6_0.toInt + 1000000 from (by have t1 : -1000000 ≤ t4_1.toInt ∧ t4_1.toInt ≤ 1000000 := btt4_1; have t2 : 0 ≤ t6_0.toInt ∧ t6_0.toInt ≤ 1000000 := btt6_0; omega)), (show t6_0.toInt ≤ y505.toInt from (by have t1 : t6_0.toInt ≤ 0 := pre0; have t2 : 0 ≤ y505.toInt := b506; omega)), (show y505.toInt ≤ t6_0.toInt + 420005 from (by have t1 : y486.toInt ≤ t6_0.toInt + 4 := b490; have t2 : y505.toInt ≤ y486.toInt := b507; omega)), (show y505.toInt ≤ t0_1.toInt + 420005 from (by have t1 : -1 ≤ t0_1.toInt ∧ t0_1.toInt ≤ 1000000 := btt0_1; have t2 : t6_0.toInt ≤ 0 := pre0; have t3 : y486.toInt ≤ t6_0.toInt + 4 := b490; have t4 : y505.toInt ≤ y486.toInt := b507; omega)), (show (t0_0, t0_1, t0_2, t0_3, t4_0, t4_1, t5_0, y505, f487) = (F_Pri_writeBody t0_0 t0_1 t0_2 t0_3 t1_0 t2_0 t3_0 t4_0 t4_1 t5_0 t6_0 t7_0 t8_0 t8_1 t8_2 t8_3 t8_4 t8_5 t8_6 t9_0 t10_0 t11_0 t12_0 t13_0 t14_0 t15_0 t16_0 t17_0 t18_0 t19_0 t20_0 t21_0 t22_0 t23_0 t24_0 t25_0 t26_0) from Eq.trans (by rw [e510, e496, e495, F_Pri_writeBody_c105.eq_1]) hR497)⟩) d_9_9_298
        ·
          have b511 : q_F (lx445.toInt ≠ 0) := (q_neI c481)
          refine q_ldcs (i := 12) C0 V rfl rfl d_9_9_98 ?_
          refine lv_goto (tgt := 105) hx hb d_9_9_100 (by decide) ?_
          refine q_gov V (q_runV (As := [.ref (g (8 + 2 * 12))]) (rest := []) (d := 5) (mc := 0) (ms := 0) (ci := 1) C0 V rfl LV_Pri_165 (X_She_addText_12 l D g q ws 45 4104 513 1000000 (n_h45 g q)  hI t6_0 hT6 t7_0 hT7 (by have y0 : (4104 : Int32).toInt = 4104 := rfl; have y1 : (513 : Int32).toInt = 513 := rfl; have y2 : (1000000 : Int32).toInt = 1000000 := rfl; have t1 : t6_0.toInt ≤ 0 := pre0; omega) _) rfl rfl hT6 rfl hl.1 rfl (Nat.le_of_ble_eq_true rfl) ⟨by decide, by decide⟩ ⟨Nat.le_of_ble_eq_true rfl, Nat.le_of_ble_eq_true rfl⟩ d_9_9_105) (fun u512 H locs hp513 V => ?_)
          obtain ⟨hI, hu521, y515, f516, hO514, hA517, b518, b519, hE520⟩ := hp513
          replace hO514 : u512[45]? = (some (q 45, .inr (1, [.ref (q 46), .int 4104, .int y515])) : Option (Nat × va_E)) := hO514
          replace hA517 : u512[46]? = (some (q 46, .inl (g 1, (513 : Int32).toNatClampNeg, .inr (.inl f516))) : Option (Nat × va_E)) := hA517
          obtain ⟨p522, e523⟩ : ∃ z, z = (F_She_addText_12 (4104 : Int32) (513 : Int32) (1000000 : Int32) t6_0 t7_0) := ⟨_, rfl⟩
          have e524 : y515 = p522.1 := congrArg (fun z => z.1) (hE520.trans e523.symm)
          have e525 : f516 = p522.2 := congrArg (fun z => z.2) (hE520.trans e523.symm)
          replace b518 : q_F (t6_0.toInt + 5 ≤ y515.toInt) := b518
          replace b519 : q_F (y515.toInt ≤ t6_0.toInt + 5) := b519
          replace hT0 := (hu521 _ (by decide)).trans hT0
          replace hT1 := (hu521 _ (by decide)).trans hT1
          replace hT2 := (hu521 _ (by decide)).trans hT2
          replace hT3 := (hu521 _ (by decide)).trans hT3
          replace hT4 := (hu521 _ (by decide)).trans hT4
          replace hT5 := (hu521 _ (by decide)).trans hT5
          replace hT8 := (hu521 _ (by decide)).trans hT8
          replace hT9 := (hu521 _ (by decide)).trans hT9
          replace hT10 := (hu521 _ (by decide)).trans hT10
          replace hT11 := (hu521 _ (by decide)).trans hT11
          replace hT12 := (hu521 _ (by decide)).trans hT12
          replace hT13 := (hu521 _ (by decide)).trans hT13
          replace hT14 := (hu521 _ (by decide)).trans hT14
          replace hT15 := (hu521 _ (by decide)).trans hT15
          replace hT16 := (hu521 _ (by decide)).trans hT16
          replace hT17 := (hu521 _ (by decide)).trans hT17
          replace hT18 := (hu521 _ (by decide)).trans hT18
          replace hT19 := (hu521 _ (by decide)).trans hT19
          replace hT20 := (hu521 _ (by decide)).trans hT20
          replace hT21 := (hu521 _ (by decide)).trans hT21
          replace hT22 := (hu521 _ (by decide)).trans hT22
          replace hT23 := (hu521 _ (by decide)).trans hT23
          replace hT24 := (hu521 _ (by decide)).trans hT24
          replace hT25 := (hu521 _ (by decide)).trans hT25
          replace hT26 := (hu521 _ (by decide)).trans hT26
          replace hF := q_uc hF hu521 (by simp)
          have hR526 := (show F_Pri_writeBody_c105_12 t0_0 t0_1 t0_2 t0_3 t1_0 t2_0 t3_0 t4_0 t4_1 t5_0 t6_0 t7_0 t8_0 t8_1 t8_2 t8_3 t8_4 t8_5 t8_6 t9_0 t10_0 t11_0 t12_0 t13_0 t14_0 t15_0 t16_0 t17_0 t18_0 t19_0 t20_0 t21_0 t22_0 t23_0 t24_0 t25_0 t26_0 lx445 p522 = (F_Pri_writeBody t0_0 t0_1 t0_2 t0_3 t1_0 t2_0 t3_0 t4_0 t4_1 t5_0 t6_0 t7_0 t8_0 t8_1 t8_2 t8_3 t8_4 t8_5 t8_6 t9_0 t10_0 t11_0 t12_0 t13_0 t14_0 t15_0 t16_0 t17_0 t18_0 t19_0 t20_0 t21_0 t22_0 t23_0 t24_0 t25_0 t26_0) from Eq.trans (by rw [e523, F_Pri_writeBody_J89.eq_1, if_neg c481]) hR476)
          have hS527 := (show True ∧ S_Pri_writeBody_c105_12 t0_0 t0_1 t0_2 t0_3 t1_0 t2_0 t3_0 t4_0 t4_1 t5_0 t6_0 t7_0 t8_0 t8_1 t8_2 t8_3 t8_4 t8_5 t8_6 t9_0 t10_0 t11_0 t12_0 t13_0 t14_0 t15_0 t16_0 t17_0 t18_0 t19_0 t20_0 t21_0 t22_0 t23_0 t24_0 t25_0 t26_0 lx445 p522 from (by rw [e523]; have h := hS477; rw [S_Pri_writeBody_J89.eq_1] at h; rw [if_neg c481] at h; with_reducible exact h))
          refine lv_aload_n hx hb d_9_9_108 rfl (lv_at hl 1 rfl) ?_
          refine q_gov V (q_runV (As := []) (rest := []) (d := 3) (mc := 0) (ms := 0) (ci := 11) C0 V rfl LV_Pri_169 (X_Pri_cutBody l D g q u512   hI y515 hO514 f516 hA517 t8_0 t8_1 t8_2 t8_3 t8_4 t8_5 t8_6 hT8  _) rfl rfl hT0 rfl hl.1 rfl (Nat.le_of_ble_eq_true rfl) ⟨by decide, by decide⟩ ⟨Nat.le_of_ble_eq_true rfl, Nat.le_of_ble_eq_true rfl⟩ d_9_9_109) (fun u531 H locs hp532 V => ?_)
          obtain ⟨hI, hu538, y534, hO533, b535, b536, hE537⟩ := hp532
          replace hO533 : u531[45]? = (some (q 45, .inr (1, [.ref (q 46), .int 4104, .int y534])) : Option (Nat × va_E)) := hO533
          have e539 : y534 = (F_Pri_cutBody y515 f516 t8_0 t8_1 t8_2 t8_3 t8_4 t8_5 t8_6) := hE537
          replace b535 : q_F (0 ≤ y534.toInt) := b535
          replace b536 : q_F (y534.toInt ≤ y515.toInt) := b536
          replace hT0 := (hu538 _ (by decide)).trans hT0
          replace hT1 := (hu538 _ (by decide)).trans hT1
          replace hT2 := (hu538 _ (by decide)).trans hT2
          replace hT3 := (hu538 _ (by decide)).trans hT3
          replace hT4 := (hu538 _ (by decide)).trans hT4
          replace hT5 := (hu538 _ (by decide)).trans hT5
          replace hA517 := (hu538 _ (by decide)).trans hA517
          replace hT8 := (hu538 _ (by decide)).trans hT8
          replace hT9 := (hu538 _ (by decide)).trans hT9
          replace hT10 := (hu538 _ (by decide)).trans hT10
          replace hT11 := (hu538 _ (by decide)).trans hT11
          replace hT12 := (hu538 _ (by decide)).trans hT12
          replace hT13 := (hu538 _ (by decide)).trans hT13
          replace hT14 := (hu538 _ (by decide)).trans hT14
          replace hT15 := (hu538 _ (by decide)).trans hT15
          replace hT16 := (hu538 _ (by decide)).trans hT16
          replace hT17 := (hu538 _ (by decide)).trans hT17
          replace hT18 := (hu538 _ (by decide)).trans hT18
          replace hT19 := (hu538 _ (by decide)).trans hT19
          replace hT20 := (hu538 _ (by decide)).trans hT20
          replace hT21 := (hu538 _ (by decide)).trans hT21
          replace hT22 := (hu538 _ (by decide)).trans hT22
          replace hT23 := (hu538 _ (by decide)).trans hT23
          replace hT24 := (hu538 _ (by decide)).trans hT24
          replace hT25 := (hu538 _ (by decide)).trans hT25
          replace hT26 := (hu538 _ (by decide)).trans hT26
          replace hF := q_uc hF hu538 (by simp)
          refine lv_goto (tgt := 298) hx hb d_9_9_112 (by decide) ?_
          exact q_retv C0 V (⟨hI, hF, t0_0, t0_1, t0_2, t0_3, t4_0, t4_1, t5_0, y534, f516, hT0, hT4, hT5, hO533, hA517, (show t0_0.toInt ≤ t0_0.toInt from (by omega)), (show t0_0.toInt ≤ t0_0.toInt from (by omega)), (show t0_1.toInt ≤ t0_1.toInt + 1000000 from (by omega)), (show t0_1.toInt ≤ t0_1.toInt + 3 from (by omega)), (show t6_0.toInt ≤ t0_1.toInt + 1 from (by have t1 : -1 ≤ t0_1.toInt ∧ t0_1.toInt ≤ 1000000 := btt0_1; have t2 : t6_0.toInt ≤ 0 := pre0; omega)), (show t0_1.toInt ≤ t6_0.toInt + 1000000 from (by have t1 : -1 ≤ t0_1.toInt ∧ t0_1.toInt ≤ 1000000 := btt0_1; have t2 : 0 ≤ t6_0.toInt ∧ t6_0.toInt ≤ 1000000 := btt6_0; omega)), (show t0_2.toInt ≤ t0_2.toInt from (by omega)), (show t0_2.toInt ≤ t0_2.toInt from (by omega)), (show t0_3.toInt ≤ t0_3.toInt from (by omega)), (show t0_3.toInt ≤ t0_3.toInt from (by omega)), (show t4_0.toInt ≤ t4_0.toInt + 21 from (by omega)), (show t6_0.toInt ≤ t4_0.toInt from (by have t1 : 0 ≤ t4_0.toInt ∧ t4_0.toInt ≤ 1026 := btt4_0; have t2 : t6_0.toInt ≤ 0 := pre0; omega)), (show t4_0.toInt ≤ t6_0.toInt + 1026 from (by have t1 : 0 ≤ t4_0.toInt ∧ t4_0.toInt ≤ 1026 := btt4_0; have t2 : 0 ≤ t6_0.toInt ∧ t6_0.toInt ≤ 1000000 := btt6_0; omega)), (show t4_1.toInt ≤ t4_1.toInt + 1020000 from (by omega)), (show t4_1.toInt ≤ t4_1.toInt + 1100001 from (by omega)), (show t6_0.toInt ≤ t4_1.toInt + 1000000 from (by have t1 : -1000000 ≤ t4_1.toInt ∧ t4_1.toInt ≤ 1000000 := btt4_1; have t2 : t6_0.toInt ≤ 0 := pre0; omega)), (show t4_1.toInt ≤ t6_0.toInt + 1000000 from (by have t1 : -1000000 ≤ t4_1.toInt ∧ t4_1.toInt ≤ 1000000 := btt4_1; have t2 : 0 ≤ t6_0.toInt ∧ t6_0.toInt ≤ 1000000 := btt6_0; omega)), (show t6_0.toInt ≤ y534.toInt from (by have t1 : t6_0.toInt ≤ 0 := pre0; have t2 : 0 ≤ y534.toInt := b535; omega)), (show y534.toInt ≤ t6_0.toInt + 420005 from (by have t1 : y515.toInt ≤ t6_0.toInt + 5 := b519; have t2 : y534.toInt ≤ y515.toInt := b536; omega)), (show y534.toInt ≤ t0_1.toInt + 420005 from (by have t1 : -1 ≤ t0_1.toInt ∧ t0_1.toInt ≤ 1000000 := btt0_1; have t2 : t6_0.toInt ≤ 0 := pre0; have t3 : y515.toInt ≤ t6_0.toInt + 5 := b519; have t4 : y534.toInt ≤ y515.toInt := b536; omega)), (show (t0_0, t0_1, t0_2, t0_3, t4_0, t4_1, t5_0, y534, f516) = (F_Pri_writeBody t0_0 t0_1 t0_2 t0_3 t1_0 t2_0 t3_0 t4_0 t4_1 t5_0 t6_0 t7_0 t8_0 t8_1 t8_2 t8_3 t8_4 t8_5 t8_6 t9_0 t10_0 t11_0 t12_0 t13_0 t14_0 t15_0 t16_0 t17_0 t18_0 t19_0 t20_0 t21_0 t22_0 t23_0 t24_0 t25_0 t26_0) from Eq.trans (by rw [e539, e525, e524, F_Pri_writeBody_c105_12.eq_1]) hR526)⟩) d_9_9_298
      ·
        intro J473
        refine q_join (X := Unit) (fun z H locs ls _ => q_Wd D g (va_A ws sz) s ws H locs ∧ lv_has ls 3 [(0, .ref (q 40))] ∧ F_Pri_writeBody_J84 t0_0 t0_1 t0_2 t0_3 t1_0 t2_0 t3_0 t4_0 t4_1 t5_0 t6_0 t7_0 t8_0 t8_1 t8_2 t8_3 t8_4 t8_5 t8_6 t9_0 t10_0 t11_0 t12_0 t13_0 t14_0 t15_0 t16_0 t17_0 t18_0 t19_0 t20_0 t21_0 t22_0 t23_0 t24_0 t25_0 t26_0 = (F_Pri_writeBody t0_0 t0_1 t0_2 t0_3 t1_0 t2_0 t3_0 t4_0 t4_1 t5_0 t6_0 t7_0 t8_0 t8_1 t8_2 t8_3 t8_4 t8_5 t8_6 t9_0 t10_0 t11_0 t12_0 t13_0 t14_0 t15_0 t16_0 t17_0 t18_0 t19_0 t20_0 t21_0 t22_0 t23_0 t24_0 t25_0 t26_0) ∧ True ∧ S_Pri_writeBody_J84 t0_0 t0_1 t0_2 t0_3 t1_0 t2_0 t3_0 t4_0 t4_1 t5_0 t6_0 t7_0 t8_0 t8_1 t8_2 t8_3 t8_4 t8_5 t8_6 t9_0 t10_0 t11_0 t12_0 t13_0 t14_0 t15_0 t16_0 t17_0 t18_0 t19_0 t20_0 t21_0 t22_0 t23_0 t24_0 t25_0 t26_0) (fun z => []) 84 0 0 ?_ ?_
        ·
          rintro _ H locs ls _ ⟨V, hl, hR568, hS569⟩
          replace hl : lv_has ls 3 [(0, .ref (q 40))] := hl
          refine lv_iconst (v := 1) hx hb d_9_9_84 (by decide) ?_
          refine lv_goto (tgt := 89) hx hb d_9_9_85 (by decide) ?_
          exact J473 ((1 : Int32)) _ _ _ ws ⟨(show q_F (t6_0.toInt ≤ 1) from (show t6_0.toInt ≤ 1 from by have t1 : t6_0.toInt ≤ 0 := pre0; omega)), (show q_F (1 ≤ t6_0.toInt + 1) from (show 1 ≤ t6_0.toInt + 1 from by have t1 : 0 ≤ t6_0.toInt ∧ t6_0.toInt ≤ 1000000 := btt6_0; omega)), V, q_lw hl (q_lw1 0 rfl q_lw0), (show F_Pri_writeBody_J89 t0_0 t0_1 t0_2 t0_3 t1_0 t2_0 t3_0 t4_0 t4_1 t5_0 t6_0 t7_0 t8_0 t8_1 t8_2 t8_3 t8_4 t8_5 t8_6 t9_0 t10_0 t11_0 t12_0 t13_0 t14_0 t15_0 t16_0 t17_0 t18_0 t19_0 t20_0 t21_0 t22_0 t23_0 t24_0 t25_0 t26_0 1 = (F_Pri_writeBody t0_0 t0_1 t0_2 t0_3 t1_0 t2_0 t3_0 t4_0 t4_1 t5_0 t6_0 t7_0 t8_0 t8_1 t8_2 t8_3 t8_4 t8_5 t8_6 t9_0 t10_0 t11_0 t12_0 t13_0 t14_0 t15_0 t16_0 t17_0 t18_0 t19_0 t20_0 t21_0 t22_0 t23_0 t24_0 t25_0 t26_0) from Eq.trans (by rw [F_Pri_writeBody_J84.eq_1]) hR568), (show True ∧ S_Pri_writeBody_J89 t0_0 t0_1 t0_2 t0_3 t1_0 t2_0 t3_0 t4_0 t4_1 t5_0 t6_0 t7_0 t8_0 t8_1 t8_2 t8_3 t8_4 t8_5 t8_6 t9_0 t10_0 t11_0 t12_0 t13_0 t14_0 t15_0 t16_0 t17_0 t18_0 t19_0 t20_0 t21_0 t22_0 t23_0 t24_0 t25_0 t26_0 1 from (by have h := hS569; rw [S_Pri_writeBody_J84.eq_1] at h; with_reducible exact h))⟩
        ·
          intro J567
          refine lv_if_eq (tgt := 84) hx hb d_9_9_62 (by decide) (fun c573 => ?_) (fun c573 => ?_)
          ·
            have b574 : q_F (a96.toInt = 0) := (q_eqI c573)
            exact J567 (()) _ _ _ ws ⟨V, q_lw hl (q_lw1 1 rfl q_lw0), (show F_Pri_writeBody_J84 t0_0 t0_1 t0_2 t0_3 t1_0 t2_0 t3_0 t4_0 t4_1 t5_0 t6_0 t7_0 t8_0 t8_1 t8_2 t8_3 t8_4 t8_5 t8_6 t9_0 t10_0 t11_0 t12_0 t13_0 t14_0 t15_0 t16_0 t17_0 t18_0 t19_0 t20_0 t21_0 t22_0 t23_0 t24_0 t25_0 t26_0 = (F_Pri_writeBody t0_0 t0_1 t0_2 t0_3 t1_0 t2_0 t3_0 t4_0 t4_1 t5_0 t6_0 t7_0 t8_0 t8_1 t8_2 t8_3 t8_4 t8_5 t8_6 t9_0 t10_0 t11_0 t12_0 t13_0 t14_0 t15_0 t16_0 t17_0 t18_0 t19_0 t20_0 t21_0 t22_0 t23_0 t24_0 t25_0 t26_0) from (by have c93x := c93; rw [e92] at c93x; have c105x := c105; rw [e104] at c105x; have c573x := c573; rw [← e97] at c573x; rw [F_Pri_writeBody.eq_1, if_pos c93x, if_neg c105x, if_pos c573x])), (show True ∧ S_Pri_writeBody_J84 t0_0 t0_1 t0_2 t0_3 t1_0 t2_0 t3_0 t4_0 t4_1 t5_0 t6_0 t7_0 t8_0 t8_1 t8_2 t8_3 t8_4 t8_5 t8_6 t9_0 t10_0 t11_0 t12_0 t13_0 t14_0 t15_0 t16_0 t17_0 t18_0 t19_0 t20_0 t21_0 t22_0 t23_0 t24_0 t25_0 t26_0 from (by have h := hS; rw [S_Pri_writeBody.eq_1] at h; have c93x := c93; rw [e92] at c93x; rw [if_pos c93x] at h; replace h := q_s2 h; have c105x := c105; rw [e104] at c105x; rw [if_neg c105x] at h; have c573x := c573; rw [← e97] at c573x; rw [if_pos c573x] at h; with_reducible exact h))⟩
          ·
            have b575 : q_F (a96.toInt ≠ 0) := (q_neI c573)
            refine lv_iload_n hx hb d_9_9_65 rfl (lv_at hl 0 rfl) ?_
            refine lv_iconst (v := 1) hx hb d_9_9_66 (by decide) ?_
            refine q_join (X := Unit) (fun z H locs ls _ => q_Wd D g (va_A ws sz) s ws H locs ∧ lv_has ls 3 [(0, .ref (q 40))] ∧ F_Pri_writeBody_J88 t0_0 t0_1 t0_2 t0_3 t1_0 t2_0 t3_0 t4_0 t4_1 t5_0 t6_0 t7_0 t8_0 t8_1 t8_2 t8_3 t8_4 t8_5 t8_6 t9_0 t10_0 t11_0 t12_0 t13_0 t14_0 t15_0 t16_0 t17_0 t18_0 t19_0 t20_0 t21_0 t22_0 t23_0 t24_0 t25_0 t26_0 = (F_Pri_writeBody t0_0 t0_1 t0_2 t0_3 t1_0 t2_0 t3_0 t4_0 t4_1 t5_0 t6_0 t7_0 t8_0 t8_1 t8_2 t8_3 t8_4 t8_5 t8_6 t9_0 t10_0 t11_0 t12_0 t13_0 t14_0 t15_0 t16_0 t17_0 t18_0 t19_0 t20_0 t21_0 t22_0 t23_0 t24_0 t25_0 t26_0) ∧ True ∧ S_Pri_writeBody_J88 t0_0 t0_1 t0_2 t0_3 t1_0 t2_0 t3_0 t4_0 t4_1 t5_0 t6_0 t7_0 t8_0 t8_1 t8_2 t8_3 t8_4 t8_5 t8_6 t9_0 t10_0 t11_0 t12_0 t13_0 t14_0 t15_0 t16_0 t17_0 t18_0 t19_0 t20_0 t21_0 t22_0 t23_0 t24_0 t25_0 t26_0) (fun z => []) 88 0 0 ?_ ?_
            ·
              rintro _ H locs ls _ ⟨V, hl, hR604, hS605⟩
              replace hl : lv_has ls 3 [(0, .ref (q 40))] := hl
              refine lv_iconst (v := 0) hx hb d_9_9_88 (by decide) ?_
              exact J473 ((0 : Int32)) _ _ _ ws ⟨(show q_F (t6_0.toInt ≤ 0) from (show t6_0.toInt ≤ 0 from by have t1 : t6_0.toInt ≤ 0 := pre0; omega)), (show q_F (0 ≤ t6_0.toInt + 1) from (show 0 ≤ t6_0.toInt + 1 from by have t1 : 0 ≤ t6_0.toInt ∧ t6_0.toInt ≤ 1000000 := btt6_0; omega)), V, q_lw hl (q_lw1 0 rfl q_lw0), (show F_Pri_writeBody_J89 t0_0 t0_1 t0_2 t0_3 t1_0 t2_0 t3_0 t4_0 t4_1 t5_0 t6_0 t7_0 t8_0 t8_1 t8_2 t8_3 t8_4 t8_5 t8_6 t9_0 t10_0 t11_0 t12_0 t13_0 t14_0 t15_0 t16_0 t17_0 t18_0 t19_0 t20_0 t21_0 t22_0 t23_0 t24_0 t25_0 t26_0 0 = (F_Pri_writeBody t0_0 t0_1 t0_2 t0_3 t1_0 t2_0 t3_0 t4_0 t4_1 t5_0 t6_0 t7_0 t8_0 t8_1 t8_2 t8_3 t8_4 t8_5 t8_6 t9_0 t10_0 t11_0 t12_0 t13_0 t14_0 t15_0 t16_0 t17_0 t18_0 t19_0 t20_0 t21_0 t22_0 t23_0 t24_0 t25_0 t26_0) from Eq.trans (by rw [F_Pri_writeBody_J88.eq_1]) hR604), (show True ∧ S_Pri_writeBody_J89 t0_0 t0_1 t0_2 t0_3 t1_0 t2_0 t3_0 t4_0 t4_1 t5_0 t6_0 t7_0 t8_0 t8_1 t8_2 t8_3 t8_4 t8_5 t8_6 t9_0 t10_0 t11_0 t12_0 t13_0 t14_0 t15_0 t16_0 t17_0 t18_0 t19_0 t20_0 t21_0 t22_0 t23_0 t24_0 t25_0 t26_0 0 from (by have h := hS605; rw [S_Pri_writeBody_J88.eq_1] at h; with_reducible exact h))⟩
            ·
              intro J603
              refine lv_icmp_ne (tgt := 88) hx hb d_9_9_67 (by decide) (fun c609 => ?_) (fun c609 => ?_)
              ·
                have b610 : q_F (a96.toInt ≠ 1) := (q_neI c609)
                exact J603 (()) _ _ _ ws ⟨V, q_lw hl (q_lw1 1 rfl q_lw0), (show F_Pri_writeBody_J88 t0_0 t0_1 t0_2 t0_3 t1_0 t2_0 t3_0 t4_0 t4_1 t5_0 t6_0 t7_0 t8_0 t8_1 t8_2 t8_3 t8_4 t8_5 t8_6 t9_0 t10_0 t11_0 t12_0 t13_0 t14_0 t15_0 t16_0 t17_0 t18_0 t19_0 t20_0 t21_0 t22_0 t23_0 t24_0 t25_0 t26_0 = (F_Pri_writeBody t0_0 t0_1 t0_2 t0_3 t1_0 t2_0 t3_0 t4_0 t4_1 t5_0 t6_0 t7_0 t8_0 t8_1 t8_2 t8_3 t8_4 t8_5 t8_6 t9_0 t10_0 t11_0 t12_0 t13_0 t14_0 t15_0 t16_0 t17_0 t18_0 t19_0 t20_0 t21_0 t22_0 t23_0 t24_0 t25_0 t26_0) from (by have c93x := c93; rw [e92] at c93x; have c105x := c105; rw [e104] at c105x; have c573x := c573; rw [← e97] at c573x; have c609x := c609; rw [← e97] at c609x; rw [F_Pri_writeBody.eq_1, if_pos c93x, if_neg c105x, if_neg c573x, if_neg c609x])), (show True ∧ S_Pri_writeBody_J88 t0_0 t0_1 t0_2 t0_3 t1_0 t2_0 t3_0 t4_0 t4_1 t5_0 t6_0 t7_0 t8_0 t8_1 t8_2 t8_3 t8_4 t8_5 t8_6 t9_0 t10_0 t11_0 t12_0 t13_0 t14_0 t15_0 t16_0 t17_0 t18_0 t19_0 t20_0 t21_0 t22_0 t23_0 t24_0 t25_0 t26_0 from (by have h := hS; rw [S_Pri_writeBody.eq_1] at h; have c93x := c93; rw [e92] at c93x; rw [if_pos c93x] at h; replace h := q_s2 h; have c105x := c105; rw [e104] at c105x; rw [if_neg c105x] at h; have c573x := c573; rw [← e97] at c573x; rw [if_neg c573x] at h; have c609x := c609; rw [← e97] at c609x; rw [if_neg c609x] at h; with_reducible exact h))⟩
              ·
                have b611 : q_F (a96.toInt = 1) := (q_eqI c609)
                refine lv_aload_n hx hb d_9_9_70 rfl (lv_at hl 1 rfl) ?_
                refine q_get (ci := 11) (j := 2) (v := .ref (q 42)) C0 V i_Pri rfl rfl hT0 (by decide) w_387 rfl d_9_9_71 ?_
                refine lv_aload_n hx hb d_9_9_74 rfl (lv_at hl 1 rfl) ?_
                refine q_get (ci := 11) (j := 11) (v := .int t0_3) C0 V i_Pri rfl rfl hT0 (by decide) w_396 rfl d_9_9_75 ?_
                refine q_lald C0 V hT2 (q_ix (x := t0_3.toInt) rfl (by have t1 : 0 ≤ t0_3.toInt := ob95; omega) (by have t1 : 0 ≤ t0_3.toInt := ob95; have t2 : -1 ≤ t0_3.toInt ∧ t0_3.toInt ≤ 8 := btt0_3; omega)) d_9_9_78 ?_
                obtain ⟨j612, e613⟩ := q_nm (t2_0 t0_3.toNatClampNeg : Int64)
                refine q_tl (v := j612) e613 ?_
                refine lv_lconst (v := 0) hx hb d_9_9_79 (by decide) ?_
                refine W.lcmp hx hb d_9_9_80 ?_
                obtain ⟨a614, e615⟩ := q_nm (lg_cmp j612 0 : Int32)
                refine q_ti (v := a614) e615 ?_
                have b616 : q_F (-1 ≤ a614.toInt ∧ a614.toInt ≤ 1 ∧ ((a614.toInt = -1 ∧ j612.toInt < 0) ∨ (a614.toInt = 0 ∧ j612.toInt = 0) ∨ (a614.toInt = 1 ∧ 0 < j612.toInt))) := (by rw [← e615]; show -1 ≤ (lg_cmp j612 0 : Int32).toInt ∧ (lg_cmp j612 0 : Int32).toInt ≤ 1 ∧ (((lg_cmp j612 0 : Int32).toInt = -1 ∧ j612.toInt < 0) ∨ ((lg_cmp j612 0 : Int32).toInt = 0 ∧ j612.toInt = 0) ∨ ((lg_cmp j612 0 : Int32).toInt = 1 ∧ 0 < j612.toInt)); exact (by have y1 : (0 : Int64).toInt = 0 := rfl; have z := s_lcmp (a := j612) (b := 0); omega))
                refine lv_if_ne (tgt := 88) hx hb d_9_9_81 (by decide) (fun c617 => ?_) (fun c617 => ?_)
                ·
                  have b618 : q_F (a614.toInt ≠ 0) := (q_neI c617)
                  exact J603 (()) _ _ _ ws ⟨V, q_lw hl (q_lw1 1 rfl q_lw0), (show F_Pri_writeBody_J88 t0_0 t0_1 t0_2 t0_3 t1_0 t2_0 t3_0 t4_0 t4_1 t5_0 t6_0 t7_0 t8_0 t8_1 t8_2 t8_3 t8_4 t8_5 t8_6 t9_0 t10_0 t11_0 t12_0 t13_0 t14_0 t15_0 t16_0 t17_0 t18_0 t19_0 t20_0 t21_0 t22_0 t23_0 t24_0 t25_0 t26_0 = (F_Pri_writeBody t0_0 t0_1 t0_2 t0_3 t1_0 t2_0 t3_0 t4_0 t4_1 t5_0 t6_0 t7_0 t8_0 t8_1 t8_2 t8_3 t8_4 t8_5 t8_6 t9_0 t10_0 t11_0 t12_0 t13_0 t14_0 t15_0 t16_0 t17_0 t18_0 t19_0 t20_0 t21_0 t22_0 t23_0 t24_0 t25_0 t26_0) from (by have c93x := c93; rw [e92] at c93x; have c105x := c105; rw [e104] at c105x; have c573x := c573; rw [← e97] at c573x; have c609x := c609; rw [← e97] at c609x; have c617x := c617; rw [← e615, ← e613] at c617x; rw [F_Pri_writeBody.eq_1, if_pos c93x, if_neg c105x, if_neg c573x, if_pos c609x, if_neg c617x])), (show True ∧ S_Pri_writeBody_J88 t0_0 t0_1 t0_2 t0_3 t1_0 t2_0 t3_0 t4_0 t4_1 t5_0 t6_0 t7_0 t8_0 t8_1 t8_2 t8_3 t8_4 t8_5 t8_6 t9_0 t10_0 t11_0 t12_0 t13_0 t14_0 t15_0 t16_0 t17_0 t18_0 t19_0 t20_0 t21_0 t22_0 t23_0 t24_0 t25_0 t26_0 from (by have h := hS; rw [S_Pri_writeBody.eq_1] at h; have c93x := c93; rw [e92] at c93x; rw [if_pos c93x] at h; replace h := q_s2 h; have c105x := c105; rw [e104] at c105x; rw [if_neg c105x] at h; have c573x := c573; rw [← e97] at c573x; rw [if_neg c573x] at h; have c609x := c609; rw [← e97] at c609x; rw [if_pos c609x] at h; have c617x := c617; rw [← e615, ← e613] at c617x; rw [if_neg c617x] at h; with_reducible exact h))⟩
                ·
                  have b619 : q_F (a614.toInt = 0) := (q_eqI c617)
                  exact J567 (()) _ _ _ ws ⟨V, q_lw hl (q_lw1 1 rfl q_lw0), (show F_Pri_writeBody_J84 t0_0 t0_1 t0_2 t0_3 t1_0 t2_0 t3_0 t4_0 t4_1 t5_0 t6_0 t7_0 t8_0 t8_1 t8_2 t8_3 t8_4 t8_5 t8_6 t9_0 t10_0 t11_0 t12_0 t13_0 t14_0 t15_0 t16_0 t17_0 t18_0 t19_0 t20_0 t21_0 t22_0 t23_0 t24_0 t25_0 t26_0 = (F_Pri_writeBody t0_0 t0_1 t0_2 t0_3 t1_0 t2_0 t3_0 t4_0 t4_1 t5_0 t6_0 t7_0 t8_0 t8_1 t8_2 t8_3 t8_4 t8_5 t8_6 t9_0 t10_0 t11_0 t12_0 t13_0 t14_0 t15_0 t16_0 t17_0 t18_0 t19_0 t20_0 t21_0 t22_0 t23_0 t24_0 t25_0 t26_0) from (by have c93x := c93; rw [e92] at c93x; have c105x := c105; rw [e104] at c105x; have c573x := c573; rw [← e97] at c573x; have c609x := c609; rw [← e97] at c609x; have c617x := c617; rw [← e615, ← e613] at c617x; rw [F_Pri_writeBody.eq_1, if_pos c93x, if_neg c105x, if_neg c573x, if_pos c609x, if_pos c617x])), (show True ∧ S_Pri_writeBody_J84 t0_0 t0_1 t0_2 t0_3 t1_0 t2_0 t3_0 t4_0 t4_1 t5_0 t6_0 t7_0 t8_0 t8_1 t8_2 t8_3 t8_4 t8_5 t8_6 t9_0 t10_0 t11_0 t12_0 t13_0 t14_0 t15_0 t16_0 t17_0 t18_0 t19_0 t20_0 t21_0 t22_0 t23_0 t24_0 t25_0 t26_0 from (by have h := hS; rw [S_Pri_writeBody.eq_1] at h; have c93x := c93; rw [e92] at c93x; rw [if_pos c93x] at h; replace h := q_s2 h; have c105x := c105; rw [e104] at c105x; rw [if_neg c105x] at h; have c573x := c573; rw [← e97] at c573x; rw [if_neg c573x] at h; have c609x := c609; rw [← e97] at c609x; rw [if_pos c609x] at h; have c617x := c617; rw [← e615, ← e613] at c617x; rw [if_pos c617x] at h; with_reducible exact h))⟩
  ·
    have b620 : q_F (a88.toInt ≠ 0) := (q_neI c93)
    refine lv_aload_n hx hb d_9_9_12 rfl (lv_at hl 0 rfl) ?_
    refine q_get (ci := 11) (j := 8) (v := .ref (q 45)) C0 V i_Pri rfl rfl hT0 (by decide) w_393 rfl d_9_9_13 ?_
    refine lv_aload_n hx hb d_9_9_16 rfl (lv_at hl 0 rfl) ?_
    refine q_get (ci := 11) (j := 6) (v := .ref (q 47)) C0 V i_Pri rfl rfl hT0 (by decide) w_391 rfl d_9_9_17 ?_
    refine q_get (ci := 10) (j := 4) (v := .int t8_4) C0 V i_Dir rfl rfl hT8 (by decide) w_362 rfl d_9_9_20 ?_
    refine lv_bipush (v := 110) hx hb d_9_9_23 (by decide) ?_
    refine lv_icmp_ne (tgt := 33) hx hb d_9_9_25 (by decide) (fun c621 => ?_) (fun c621 => ?_)
    ·
      have b622 : q_F (t8_4.toInt ≠ 110) := (q_neI c621)
      refine lv_bipush (v := 37) hx hb d_9_9_33 (by decide) ?_
      refine q_gov V (q_runV (As := [.int 37]) (rest := []) (d := 1) (mc := 0) (ms := 0) (ci := 1) C0 V rfl LV_Pri_113 (X_She_add_p l D g q ws 45 4104 513 1000000 (n_h45 g q) 37 hI t6_0 hT6 t7_0 hT7 (by have y0 : (4104 : Int32).toInt = 4104 := rfl; have y1 : (513 : Int32).toInt = 513 := rfl; have y2 : (1000000 : Int32).toInt = 1000000 := rfl; have y3 : (37 : Int32).toInt = 37 := rfl; have t1 : t6_0.toInt ≤ 0 := pre0; omega) _) rfl rfl hT6 rfl hl.1 rfl (Nat.le_of_ble_eq_true rfl) ⟨by decide, by decide⟩ ⟨Nat.le_of_ble_eq_true rfl, Nat.le_of_ble_eq_true rfl⟩ d_9_9_35) (fun u623 H locs hp624 V => ?_)
      obtain ⟨hI, hu632, y626, f627, hO625, hA628, b629, b630, hE631⟩ := hp624
      replace hO625 : u623[45]? = (some (q 45, .inr (1, [.ref (q 46), .int 4104, .int y626])) : Option (Nat × va_E)) := hO625
      replace hA628 : u623[46]? = (some (q 46, .inl (g 1, (513 : Int32).toNatClampNeg, .inr (.inl f627))) : Option (Nat × va_E)) := hA628
      obtain ⟨p633, e634⟩ : ∃ z, z = (F_She_add_p (4104 : Int32) (513 : Int32) (1000000 : Int32) (37 : Int32) t6_0 t7_0) := ⟨_, rfl⟩
      have e635 : y626 = p633.1 := congrArg (fun z => z.1) (hE631.trans e634.symm)
      have e636 : f627 = p633.2 := congrArg (fun z => z.2) (hE631.trans e634.symm)
      replace b629 : q_F (t6_0.toInt + 1 ≤ y626.toInt) := b629
      replace b630 : q_F (y626.toInt ≤ t6_0.toInt + 1) := b630
      replace hT0 := (hu632 _ (by decide)).trans hT0
      replace hT1 := (hu632 _ (by decide)).trans hT1
      replace hT2 := (hu632 _ (by decide)).trans hT2
      replace hT3 := (hu632 _ (by decide)).trans hT3
      replace hT4 := (hu632 _ (by decide)).trans hT4
      replace hT5 := (hu632 _ (by decide)).trans hT5
      replace hT8 := (hu632 _ (by decide)).trans hT8
      replace hT9 := (hu632 _ (by decide)).trans hT9
      replace hT10 := (hu632 _ (by decide)).trans hT10
      replace hT11 := (hu632 _ (by decide)).trans hT11
      replace hT12 := (hu632 _ (by decide)).trans hT12
      replace hT13 := (hu632 _ (by decide)).trans hT13
      replace hT14 := (hu632 _ (by decide)).trans hT14
      replace hT15 := (hu632 _ (by decide)).trans hT15
      replace hT16 := (hu632 _ (by decide)).trans hT16
      replace hT17 := (hu632 _ (by decide)).trans hT17
      replace hT18 := (hu632 _ (by decide)).trans hT18
      replace hT19 := (hu632 _ (by decide)).trans hT19
      replace hT20 := (hu632 _ (by decide)).trans hT20
      replace hT21 := (hu632 _ (by decide)).trans hT21
      replace hT22 := (hu632 _ (by decide)).trans hT22
      replace hT23 := (hu632 _ (by decide)).trans hT23
      replace hT24 := (hu632 _ (by decide)).trans hT24
      replace hT25 := (hu632 _ (by decide)).trans hT25
      replace hT26 := (hu632 _ (by decide)).trans hT26
      replace hF := q_uc hF hu632 (by simp)
      have hR637 := (show F_Pri_writeBody_c35 t0_0 t0_1 t0_2 t0_3 t1_0 t2_0 t3_0 t4_0 t4_1 t5_0 t6_0 t7_0 t8_0 t8_1 t8_2 t8_3 t8_4 t8_5 t8_6 t9_0 t10_0 t11_0 t12_0 t13_0 t14_0 t15_0 t16_0 t17_0 t18_0 t19_0 t20_0 t21_0 t22_0 t23_0 t24_0 t25_0 t26_0 p633 = (F_Pri_writeBody t0_0 t0_1 t0_2 t0_3 t1_0 t2_0 t3_0 t4_0 t4_1 t5_0 t6_0 t7_0 t8_0 t8_1 t8_2 t8_3 t8_4 t8_5 t8_6 t9_0 t10_0 t11_0 t12_0 t13_0 t14_0 t15_0 t16_0 t17_0 t18_0 t19_0 t20_0 t21_0 t22_0 t23_0 t24_0 t25_0 t26_0) from (by have c93x := c93; rw [e92] at c93x; rw [e634, F_Pri_writeBody.eq_1, if_neg c93x, if_neg c621]))
      have hS638 := (show True ∧ S_Pri_writeBody_c35 t0_0 t0_1 t0_2 t0_3 t1_0 t2_0 t3_0 t4_0 t4_1 t5_0 t6_0 t7_0 t8_0 t8_1 t8_2 t8_3 t8_4 t8_5 t8_6 t9_0 t10_0 t11_0 t12_0 t13_0 t14_0 t15_0 t16_0 t17_0 t18_0 t19_0 t20_0 t21_0 t22_0 t23_0 t24_0 t25_0 t26_0 p633 from (by rw [e634]; have h := hS; rw [S_Pri_writeBody.eq_1] at h; have c93x := c93; rw [e92] at c93x; rw [if_neg c93x] at h; rw [if_neg c621] at h; with_reducible exact h))
      exact q_retv C0 V (⟨hI, hF, t0_0, t0_1, t0_2, t0_3, t4_0, t4_1, t5_0, y626, f627, hT0, hT4, hT5, hO625, hA628, (show t0_0.toInt ≤ t0_0.toInt from (by omega)), (show t0_0.toInt ≤ t0_0.toInt from (by omega)), (show t0_1.toInt ≤ t0_1.toInt + 1000000 from (by omega)), (show t0_1.toInt ≤ t0_1.toInt + 3 from (by omega)), (show t6_0.toInt ≤ t0_1.toInt + 1 from (by have t1 : -1 ≤ t0_1.toInt ∧ t0_1.toInt ≤ 1000000 := btt0_1; have t2 : t6_0.toInt ≤ 0 := pre0; omega)), (show t0_1.toInt ≤ t6_0.toInt + 1000000 from (by have t1 : -1 ≤ t0_1.toInt ∧ t0_1.toInt ≤ 1000000 := btt0_1; have t2 : 0 ≤ t6_0.toInt ∧ t6_0.toInt ≤ 1000000 := btt6_0; omega)), (show t0_2.toInt ≤ t0_2.toInt from (by omega)), (show t0_2.toInt ≤ t0_2.toInt from (by omega)), (show t0_3.toInt ≤ t0_3.toInt from (by omega)), (show t0_3.toInt ≤ t0_3.toInt from (by omega)), (show t4_0.toInt ≤ t4_0.toInt + 21 from (by omega)), (show t6_0.toInt ≤ t4_0.toInt from (by have t1 : 0 ≤ t4_0.toInt ∧ t4_0.toInt ≤ 1026 := btt4_0; have t2 : t6_0.toInt ≤ 0 := pre0; omega)), (show t4_0.toInt ≤ t6_0.toInt + 1026 from (by have t1 : 0 ≤ t4_0.toInt ∧ t4_0.toInt ≤ 1026 := btt4_0; have t2 : 0 ≤ t6_0.toInt ∧ t6_0.toInt ≤ 1000000 := btt6_0; omega)), (show t4_1.toInt ≤ t4_1.toInt + 1020000 from (by omega)), (show t4_1.toInt ≤ t4_1.toInt + 1100001 from (by omega)), (show t6_0.toInt ≤ t4_1.toInt + 1000000 from (by have t1 : -1000000 ≤ t4_1.toInt ∧ t4_1.toInt ≤ 1000000 := btt4_1; have t2 : t6_0.toInt ≤ 0 := pre0; omega)), (show t4_1.toInt ≤ t6_0.toInt + 1000000 from (by have t1 : -1000000 ≤ t4_1.toInt ∧ t4_1.toInt ≤ 1000000 := btt4_1; have t2 : 0 ≤ t6_0.toInt ∧ t6_0.toInt ≤ 1000000 := btt6_0; omega)), (show t6_0.toInt ≤ y626.toInt from (by have t1 : t6_0.toInt + 1 ≤ y626.toInt := b629; omega)), (show y626.toInt ≤ t6_0.toInt + 420005 from (by have t1 : y626.toInt ≤ t6_0.toInt + 1 := b630; omega)), (show y626.toInt ≤ t0_1.toInt + 420005 from (by have t1 : -1 ≤ t0_1.toInt ∧ t0_1.toInt ≤ 1000000 := btt0_1; have t2 : t6_0.toInt ≤ 0 := pre0; have t3 : y626.toInt ≤ t6_0.toInt + 1 := b630; omega)), (show (t0_0, t0_1, t0_2, t0_3, t4_0, t4_1, t5_0, y626, f627) = (F_Pri_writeBody t0_0 t0_1 t0_2 t0_3 t1_0 t2_0 t3_0 t4_0 t4_1 t5_0 t6_0 t7_0 t8_0 t8_1 t8_2 t8_3 t8_4 t8_5 t8_6 t9_0 t10_0 t11_0 t12_0 t13_0 t14_0 t15_0 t16_0 t17_0 t18_0 t19_0 t20_0 t21_0 t22_0 t23_0 t24_0 t25_0 t26_0) from Eq.trans (by rw [e636, e635, F_Pri_writeBody_c35.eq_1]) hR637)⟩) d_9_9_38
    ·
      have b642 : q_F (t8_4.toInt = 110) := (q_eqI c621)
      refine lv_bipush (v := 10) hx hb d_9_9_28 (by decide) ?_
      refine lv_goto (tgt := 35) hx hb d_9_9_30 (by decide) ?_
      refine q_gov V (q_runV (As := [.int 10]) (rest := []) (d := 1) (mc := 0) (ms := 0) (ci := 1) C0 V rfl LV_Pri_113 (X_She_add_p l D g q ws 45 4104 513 1000000 (n_h45 g q) 10 hI t6_0 hT6 t7_0 hT7 (by have y0 : (4104 : Int32).toInt = 4104 := rfl; have y1 : (513 : Int32).toInt = 513 := rfl; have y2 : (1000000 : Int32).toInt = 1000000 := rfl; have y3 : (10 : Int32).toInt = 10 := rfl; have t1 : t6_0.toInt ≤ 0 := pre0; omega) _) rfl rfl hT6 rfl hl.1 rfl (Nat.le_of_ble_eq_true rfl) ⟨by decide, by decide⟩ ⟨Nat.le_of_ble_eq_true rfl, Nat.le_of_ble_eq_true rfl⟩ d_9_9_35) (fun u643 H locs hp644 V => ?_)
      obtain ⟨hI, hu652, y646, f647, hO645, hA648, b649, b650, hE651⟩ := hp644
      replace hO645 : u643[45]? = (some (q 45, .inr (1, [.ref (q 46), .int 4104, .int y646])) : Option (Nat × va_E)) := hO645
      replace hA648 : u643[46]? = (some (q 46, .inl (g 1, (513 : Int32).toNatClampNeg, .inr (.inl f647))) : Option (Nat × va_E)) := hA648
      obtain ⟨p653, e654⟩ : ∃ z, z = (F_She_add_p (4104 : Int32) (513 : Int32) (1000000 : Int32) (10 : Int32) t6_0 t7_0) := ⟨_, rfl⟩
      have e655 : y646 = p653.1 := congrArg (fun z => z.1) (hE651.trans e654.symm)
      have e656 : f647 = p653.2 := congrArg (fun z => z.2) (hE651.trans e654.symm)
      replace b649 : q_F (t6_0.toInt + 1 ≤ y646.toInt) := b649
      replace b650 : q_F (y646.toInt ≤ t6_0.toInt + 1) := b650
      replace hT0 := (hu652 _ (by decide)).trans hT0
      replace hT1 := (hu652 _ (by decide)).trans hT1
      replace hT2 := (hu652 _ (by decide)).trans hT2
      replace hT3 := (hu652 _ (by decide)).trans hT3
      replace hT4 := (hu652 _ (by decide)).trans hT4
      replace hT5 := (hu652 _ (by decide)).trans hT5
      replace hT8 := (hu652 _ (by decide)).trans hT8
      replace hT9 := (hu652 _ (by decide)).trans hT9
      replace hT10 := (hu652 _ (by decide)).trans hT10
      replace hT11 := (hu652 _ (by decide)).trans hT11
      replace hT12 := (hu652 _ (by decide)).trans hT12
      replace hT13 := (hu652 _ (by decide)).trans hT13
      replace hT14 := (hu652 _ (by decide)).trans hT14
      replace hT15 := (hu652 _ (by decide)).trans hT15
      replace hT16 := (hu652 _ (by decide)).trans hT16
      replace hT17 := (hu652 _ (by decide)).trans hT17
      replace hT18 := (hu652 _ (by decide)).trans hT18
      replace hT19 := (hu652 _ (by decide)).trans hT19
      replace hT20 := (hu652 _ (by decide)).trans hT20
      replace hT21 := (hu652 _ (by decide)).trans hT21
      replace hT22 := (hu652 _ (by decide)).trans hT22
      replace hT23 := (hu652 _ (by decide)).trans hT23
      replace hT24 := (hu652 _ (by decide)).trans hT24
      replace hT25 := (hu652 _ (by decide)).trans hT25
      replace hT26 := (hu652 _ (by decide)).trans hT26
      replace hF := q_uc hF hu652 (by simp)
      have hR657 := (show F_Pri_writeBody_c35_16 t0_0 t0_1 t0_2 t0_3 t1_0 t2_0 t3_0 t4_0 t4_1 t5_0 t6_0 t7_0 t8_0 t8_1 t8_2 t8_3 t8_4 t8_5 t8_6 t9_0 t10_0 t11_0 t12_0 t13_0 t14_0 t15_0 t16_0 t17_0 t18_0 t19_0 t20_0 t21_0 t22_0 t23_0 t24_0 t25_0 t26_0 p653 = (F_Pri_writeBody t0_0 t0_1 t0_2 t0_3 t1_0 t2_0 t3_0 t4_0 t4_1 t5_0 t6_0 t7_0 t8_0 t8_1 t8_2 t8_3 t8_4 t8_5 t8_6 t9_0 t10_0 t11_0 t12_0 t13_0 t14_0 t15_0 t16_0 t17_0 t18_0 t19_0 t20_0 t21_0 t22_0 t23_0 t24_0 t25_0 t26_0) from (by have c93x := c93; rw [e92] at c93x; rw [e654, F_Pri_writeBody.eq_1, if_neg c93x, if_pos c621]))
      have hS658 := (show True ∧ S_Pri_writeBody_c35_16 t0_0 t0_1 t0_2 t0_3 t1_0 t2_0 t3_0 t4_0 t4_1 t5_0 t6_0 t7_0 t8_0 t8_1 t8_2 t8_3 t8_4 t8_5 t8_6 t9_0 t10_0 t11_0 t12_0 t13_0 t14_0 t15_0 t16_0 t17_0 t18_0 t19_0 t20_0 t21_0 t22_0 t23_0 t24_0 t25_0 t26_0 p653 from (by rw [e654]; have h := hS; rw [S_Pri_writeBody.eq_1] at h; have c93x := c93; rw [e92] at c93x; rw [if_neg c93x] at h; rw [if_pos c621] at h; with_reducible exact h))
      exact q_retv C0 V (⟨hI, hF, t0_0, t0_1, t0_2, t0_3, t4_0, t4_1, t5_0, y646, f647, hT0, hT4, hT5, hO645, hA648, (show t0_0.toInt ≤ t0_0.toInt from (by omega)), (show t0_0.toInt ≤ t0_0.toInt from (by omega)), (show t0_1.toInt ≤ t0_1.toInt + 1000000 from (by omega)), (show t0_1.toInt ≤ t0_1.toInt + 3 from (by omega)), (show t6_0.toInt ≤ t0_1.toInt + 1 from (by have t1 : -1 ≤ t0_1.toInt ∧ t0_1.toInt ≤ 1000000 := btt0_1; have t2 : t6_0.toInt ≤ 0 := pre0; omega)), (show t0_1.toInt ≤ t6_0.toInt + 1000000 from (by have t1 : -1 ≤ t0_1.toInt ∧ t0_1.toInt ≤ 1000000 := btt0_1; have t2 : 0 ≤ t6_0.toInt ∧ t6_0.toInt ≤ 1000000 := btt6_0; omega)), (show t0_2.toInt ≤ t0_2.toInt from (by omega)), (show t0_2.toInt ≤ t0_2.toInt from (by omega)), (show t0_3.toInt ≤ t0_3.toInt from (by omega)), (show t0_3.toInt ≤ t0_3.toInt from (by omega)), (show t4_0.toInt ≤ t4_0.toInt + 21 from (by omega)), (show t6_0.toInt ≤ t4_0.toInt from (by have t1 : 0 ≤ t4_0.toInt ∧ t4_0.toInt ≤ 1026 := btt4_0; have t2 : t6_0.toInt ≤ 0 := pre0; omega)), (show t4_0.toInt ≤ t6_0.toInt + 1026 from (by have t1 : 0 ≤ t4_0.toInt ∧ t4_0.toInt ≤ 1026 := btt4_0; have t2 : 0 ≤ t6_0.toInt ∧ t6_0.toInt ≤ 1000000 := btt6_0; omega)), (show t4_1.toInt ≤ t4_1.toInt + 1020000 from (by omega)), (show t4_1.toInt ≤ t4_1.toInt + 1100001 from (by omega)), (show t6_0.toInt ≤ t4_1.toInt + 1000000 from (by have t1 : -1000000 ≤ t4_1.toInt ∧ t4_1.toInt ≤ 1000000 := btt4_1; have t2 : t6_0.toInt ≤ 0 := pre0; omega)), (show t4_1.toInt ≤ t6_0.toInt + 1000000 from (by have t1 : -1000000 ≤ t4_1.toInt ∧ t4_1.toInt ≤ 1000000 := btt4_1; have t2 : 0 ≤ t6_0.toInt ∧ t6_0.toInt ≤ 1000000 := btt6_0; omega)), (show t6_0.toInt ≤ y646.toInt from (by have t1 : t6_0.toInt + 1 ≤ y646.toInt := b649; omega)), (show y646.toInt ≤ t6_0.toInt + 420005 from (by have t1 : y646.toInt ≤ t6_0.toInt + 1 := b650; omega)), (show y646.toInt ≤ t0_1.toInt + 420005 from (by have t1 : -1 ≤ t0_1.toInt ∧ t0_1.toInt ≤ 1000000 := btt0_1; have t2 : t6_0.toInt ≤ 0 := pre0; have t3 : y646.toInt ≤ t6_0.toInt + 1 := b650; omega)), (show (t0_0, t0_1, t0_2, t0_3, t4_0, t4_1, t5_0, y646, f647) = (F_Pri_writeBody t0_0 t0_1 t0_2 t0_3 t1_0 t2_0 t3_0 t4_0 t4_1 t5_0 t6_0 t7_0 t8_0 t8_1 t8_2 t8_3 t8_4 t8_5 t8_6 t9_0 t10_0 t11_0 t12_0 t13_0 t14_0 t15_0 t16_0 t17_0 t18_0 t19_0 t20_0 t21_0 t22_0 t23_0 t24_0 t25_0 t26_0) from Eq.trans (by rw [e656, e655, F_Pri_writeBody_c35_16.eq_1]) hR657)⟩) d_9_9_38
