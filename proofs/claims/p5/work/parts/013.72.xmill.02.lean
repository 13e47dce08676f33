def F_Mil_powerBelow_a_c122 (K_F_Mil_powerBelow_a_L27 : Int32 → Int32 → Int32 → (Nat → Int32) → Int32 → Int32 → (Nat → Int32) → Int32 → Int32 → (Nat → Int32) → Int32 → Int32 → (Nat → Int32) → (Int32 × Int32 × (Nat → Int32) × Int32 × Int32 × (Nat → Int32) × Int32 × Int32 × (Nat → Int32) × Int32 × Int32 × (Nat → Int32) × Int32 × Int32 × (Nat → Int32))) (R2 : Int32) (t0_0 : Int32) (t0_1 : Int32) (t1_0 : (Nat → Int32)) (t2_0 : Int32) (t2_1 : Int32) (t3_0 : (Nat → Int32)) (t4_0 : Int32) (t4_1 : Int32) (t5_0 : (Nat → Int32)) (t6_0 : Int32) (t6_1 : Int32) (t7_0 : (Nat → Int32)) (t8_0 : Int32) (t8_1 : Int32) (t9_0 : (Nat → Int32)) (p56 : (Int32 × Int32 × (Nat → Int32))) (p101 : (Int32 × Int32 × (Nat → Int32) × Int32 × Int32 × (Nat → Int32) × Int32 × Int32 × (Nat → Int32))) (lx129 : Int32) (lx130 : Int32) (lx131 : Int32) (lx132 : (Nat → Int32)) (lx133 : Int32) (lx134 : Int32) (lx135 : (Nat → Int32)) (lx136 : Int32) (lx137 : Int32) (lx138 : (Nat → Int32)) (lx139 : Int32) (lx140 : Int32) (lx141 : (Nat → Int32)) (p198 : (Int32 × Int32 × (Nat → Int32))) : Int32 × Int32 × (Nat → Int32) × Int32 × Int32 × (Nat → Int32) × Int32 × Int32 × (Nat → Int32) × Int32 × Int32 × (Nat → Int32) × Int32 × Int32 × (Nat → Int32) := ((p198.1 : Int32), (p198.2.1 : Int32), (p198.2.2 : (Nat → Int32)), lx130, lx131, lx132, lx133, lx134, lx135, lx136, lx137, lx138, lx139, lx140, lx141)
def F_Mil_powerBelow_a_c105 (K_F_Mil_powerBelow_a_L27 : Int32 → Int32 → Int32 → (Nat → Int32) → Int32 → Int32 → (Nat → Int32) → Int32 → Int32 → (Nat → Int32) → Int32 → Int32 → (Nat → Int32) → (Int32 × Int32 × (Nat → Int32) × Int32 × Int32 × (Nat → Int32) × Int32 × Int32 × (Nat → Int32) × Int32 × Int32 × (Nat → Int32) × Int32 × Int32 × (Nat → Int32))) (R2 : Int32) (t0_0 : Int32) (t0_1 : Int32) (t1_0 : (Nat → Int32)) (t2_0 : Int32) (t2_1 : Int32) (t3_0 : (Nat → Int32)) (t4_0 : Int32) (t4_1 : Int32) (t5_0 : (Nat → Int32)) (t6_0 : Int32) (t6_1 : Int32) (t7_0 : (Nat → Int32)) (t8_0 : Int32) (t8_1 : Int32) (t9_0 : (Nat → Int32)) (p56 : (Int32 × Int32 × (Nat → Int32))) (p101 : (Int32 × Int32 × (Nat → Int32) × Int32 × Int32 × (Nat → Int32) × Int32 × Int32 × (Nat → Int32))) (lx129 : Int32) (lx130 : Int32) (lx131 : Int32) (lx132 : (Nat → Int32)) (lx133 : Int32) (lx134 : Int32) (lx135 : (Nat → Int32)) (lx136 : Int32) (lx137 : Int32) (lx138 : (Nat → Int32)) (lx139 : Int32) (lx140 : Int32) (lx141 : (Nat → Int32)) (p223 : (Int32 × Int32 × (Nat → Int32))) (p268 : (Int32 × Int32 × (Nat → Int32) × Int32 × Int32 × (Nat → Int32) × Int32 × Int32 × (Nat → Int32))) (y247 : Int32) (y248 : Int32) (f249 : (Nat → Int32)) (y237 : Int32) (y238 : Int32) (f239 : (Nat → Int32)) (y242 : Int32) (y243 : Int32) (f244 : (Nat → Int32)) (p307 : (Int32 × Int32 × (Nat → Int32))) : Int32 × Int32 × (Nat → Int32) × Int32 × Int32 × (Nat → Int32) × Int32 × Int32 × (Nat → Int32) × Int32 × Int32 × (Nat → Int32) × Int32 × Int32 × (Nat → Int32) := K_F_Mil_powerBelow_a_L27 (lx129 + (-1) : Int32) y247 y248 f249 (p307.1 : Int32) (p307.2.1 : Int32) (p307.2.2 : (Nat → Int32)) y237 y238 f239 y242 y243 f244
def F_Mil_powerBelow_a_c91 (K_F_Mil_powerBelow_a_L27 : Int32 → Int32 → Int32 → (Nat → Int32) → Int32 → Int32 → (Nat → Int32) → Int32 → Int32 → (Nat → Int32) → Int32 → Int32 → (Nat → Int32) → (Int32 × Int32 × (Nat → Int32) × Int32 × Int32 × (Nat → Int32) × Int32 × Int32 × (Nat → Int32) × Int32 × Int32 × (Nat → Int32) × Int32 × Int32 × (Nat → Int32))) (R2 : Int32) (t0_0 : Int32) (t0_1 : Int32) (t1_0 : (Nat → Int32)) (t2_0 : Int32) (t2_1 : Int32) (t3_0 : (Nat → Int32)) (t4_0 : Int32) (t4_1 : Int32) (t5_0 : (Nat → Int32)) (t6_0 : Int32) (t6_1 : Int32) (t7_0 : (Nat → Int32)) (t8_0 : Int32) (t8_1 : Int32) (t9_0 : (Nat → Int32)) (p56 : (Int32 × Int32 × (Nat → Int32))) (p101 : (Int32 × Int32 × (Nat → Int32) × Int32 × Int32 × (Nat → Int32) × Int32 × Int32 × (Nat → Int32))) (lx129 : Int32) (lx130 : Int32) (lx131 : Int32) (lx132 : (Nat → Int32)) (lx133 : Int32) (lx134 : Int32) (lx135 : (Nat → Int32)) (lx136 : Int32) (lx137 : Int32) (lx138 : (Nat → Int32)) (lx139 : Int32) (lx140 : Int32) (lx141 : (Nat → Int32)) (p223 : (Int32 × Int32 × (Nat → Int32))) (p268 : (Int32 × Int32 × (Nat → Int32) × Int32 × Int32 × (Nat → Int32) × Int32 × Int32 × (Nat → Int32))) (y247 : Int32) (y248 : Int32) (f249 : (Nat → Int32)) (y237 : Int32) (y238 : Int32) (f239 : (Nat → Int32)) (y242 : Int32) (y243 : Int32) (f244 : (Nat → Int32)) (p334 : (Int32 × Int32 × (Nat → Int32))) (p379 : (Int32 × Int32 × (Nat → Int32) × Int32 × Int32 × (Nat → Int32) × Int32 × Int32 × (Nat → Int32))) : Int32 × Int32 × (Nat → Int32) × Int32 × Int32 × (Nat → Int32) × Int32 × Int32 × (Nat → Int32) × Int32 × Int32 × (Nat → Int32) × Int32 × Int32 × (Nat → Int32) := K_F_Mil_powerBelow_a_L27 (lx129 + (-1) : Int32) (p379.2.2.2.2.2.2.1 : Int32) (p379.2.2.2.2.2.2.2.1 : Int32) (p379.2.2.2.2.2.2.2.2 : (Nat → Int32)) (p379.1 : Int32) (p379.2.1 : Int32) (p379.2.2.1 : (Nat → Int32)) y237 y238 f239 (p379.2.2.2.1 : Int32) (p379.2.2.2.2.1 : Int32) (p379.2.2.2.2.2.1 : (Nat → Int32))
def F_Mil_powerBelow_a_c79 (K_F_Mil_powerBelow_a_L27 : Int32 → Int32 → Int32 → (Nat → Int32) → Int32 → Int32 → (Nat → Int32) → Int32 → Int32 → (Nat → Int32) → Int32 → Int32 → (Nat → Int32) → (Int32 × Int32 × (Nat → Int32) × Int32 × Int32 × (Nat → Int32) × Int32 × Int32 × (Nat → Int32) × Int32 × Int32 × (Nat → Int32) × Int32 × Int32 × (Nat → Int32))) (R2 : Int32) (t0_0 : Int32) (t0_1 : Int32) (t1_0 : (Nat → Int32)) (t2_0 : Int32) (t2_1 : Int32) (t3_0 : (Nat → Int32)) (t4_0 : Int32) (t4_1 : Int32) (t5_0 : (Nat → Int32)) (t6_0 : Int32) (t6_1 : Int32) (t7_0 : (Nat → Int32)) (t8_0 : Int32) (t8_1 : Int32) (t9_0 : (Nat → Int32)) (p56 : (Int32 × Int32 × (Nat → Int32))) (p101 : (Int32 × Int32 × (Nat → Int32) × Int32 × Int32 × (Nat → Int32) × Int32 × Int32 × (Nat → Int32))) (lx129 : Int32) (lx130 : Int32) (lx131 : Int32) (lx132 : (Nat → Int32)) (lx133 : Int32) (lx134 : Int32) (lx135 : (Nat → Int32)) (lx136 : Int32) (lx137 : Int32) (lx138 : (Nat → Int32)) (lx139 : Int32) (lx140 : Int32) (lx141 : (Nat → Int32)) (p223 : (Int32 × Int32 × (Nat → Int32))) (p268 : (Int32 × Int32 × (Nat → Int32) × Int32 × Int32 × (Nat → Int32) × Int32 × Int32 × (Nat → Int32))) (y247 : Int32) (y248 : Int32) (f249 : (Nat → Int32)) (y237 : Int32) (y238 : Int32) (f239 : (Nat → Int32)) (y242 : Int32) (y243 : Int32) (f244 : (Nat → Int32)) (p334 : (Int32 × Int32 × (Nat → Int32))) : Int32 × Int32 × (Nat → Int32) × Int32 × Int32 × (Nat → Int32) × Int32 × Int32 × (Nat → Int32) × Int32 × Int32 × (Nat → Int32) × Int32 × Int32 × (Nat → Int32) := F_Mil_powerBelow_a_c91 K_F_Mil_powerBelow_a_L27 R2 t0_0 t0_1 t1_0 t2_0 t2_1 t3_0 t4_0 t4_1 t5_0 t6_0 t6_1 t7_0 t8_0 t8_1 t9_0 p56 p101 lx129 lx130 lx131 lx132 lx133 lx134 lx135 lx136 lx137 lx138 lx139 lx140 lx141 p223 p268 y247 y248 f249 y237 y238 f239 y242 y243 f244 p334 ((F_Big_divideBy (220 : Int32) R2 (220 : Int32) (p334.1 : Int32) (p334.2.1 : Int32) (p334.2.2 : (Nat → Int32)) y242 y243 f244 y247 y248 f249) : (Int32 × Int32 × (Nat → Int32) × Int32 × Int32 × (Nat → Int32) × Int32 × Int32 × (Nat → Int32)))
def F_Mil_powerBelow_a_c55 (K_F_Mil_powerBelow_a_L27 : Int32 → Int32 → Int32 → (Nat → Int32) → Int32 → Int32 → (Nat → Int32) → Int32 → Int32 → (Nat → Int32) → Int32 → Int32 → (Nat → Int32) → (Int32 × Int32 × (Nat → Int32) × Int32 × Int32 × (Nat → Int32) × Int32 × Int32 × (Nat → Int32) × Int32 × Int32 × (Nat → Int32) × Int32 × Int32 × (Nat → Int32))) (R2 : Int32) (t0_0 : Int32) (t0_1 : Int32) (t1_0 : (Nat → Int32)) (t2_0 : Int32) (t2_1 : Int32) (t3_0 : (Nat → Int32)) (t4_0 : Int32) (t4_1 : Int32) (t5_0 : (Nat → Int32)) (t6_0 : Int32) (t6_1 : Int32) (t7_0 : (Nat → Int32)) (t8_0 : Int32) (t8_1 : Int32) (t9_0 : (Nat → Int32)) (p56 : (Int32 × Int32 × (Nat → Int32))) (p101 : (Int32 × Int32 × (Nat → Int32) × Int32 × Int32 × (Nat → Int32) × Int32 × Int32 × (Nat → Int32))) (lx129 : Int32) (lx130 : Int32) (lx131 : Int32) (lx132 : (Nat → Int32)) (lx133 : Int32) (lx134 : Int32) (lx135 : (Nat → Int32)) (lx136 : Int32) (lx137 : Int32) (lx138 : (Nat → Int32)) (lx139 : Int32) (lx140 : Int32) (lx141 : (Nat → Int32)) (p223 : (Int32 × Int32 × (Nat → Int32))) (p268 : (Int32 × Int32 × (Nat → Int32) × Int32 × Int32 × (Nat → Int32) × Int32 × Int32 × (Nat → Int32))) : Int32 × Int32 × (Nat → Int32) × Int32 × Int32 × (Nat → Int32) × Int32 × Int32 × (Nat → Int32) × Int32 × Int32 × (Nat → Int32) × Int32 × Int32 × (Nat → Int32) := if ((F_Big_bit R2 lx129 (p268.2.2.2.1 : Int32) (p268.2.2.2.2.1 : Int32) (p268.2.2.2.2.2.1 : (Nat → Int32))) : Int32) = (1 : Int32) then (F_Mil_powerBelow_a_c79 K_F_Mil_powerBelow_a_L27 R2 t0_0 t0_1 t1_0 t2_0 t2_1 t3_0 t4_0 t4_1 t5_0 t6_0 t6_1 t7_0 t8_0 t8_1 t9_0 p56 p101 lx129 lx130 lx131 lx132 lx133 lx134 lx135 lx136 lx137 lx138 lx139 lx140 lx141 p223 p268 (p268.2.2.2.2.2.2.1 : Int32) (p268.2.2.2.2.2.2.2.1 : Int32) (p268.2.2.2.2.2.2.2.2 : (Nat → Int32)) (p268.1 : Int32) (p268.2.1 : Int32) (p268.2.2.1 : (Nat → Int32)) (p268.2.2.2.1 : Int32) (p268.2.2.2.2.1 : Int32) (p268.2.2.2.2.2.1 : (Nat → Int32)) ((F_Big_product (220 : Int32) (220 : Int32) (220 : Int32) lx133 lx134 lx135 (p268.1 : Int32) (p268.2.1 : Int32) (p268.2.2.1 : (Nat → Int32)) t0_0 t0_1 t1_0) : (Int32 × Int32 × (Nat → Int32)))) else (F_Mil_powerBelow_a_c105 K_F_Mil_powerBelow_a_L27 R2 t0_0 t0_1 t1_0 t2_0 t2_1 t3_0 t4_0 t4_1 t5_0 t6_0 t6_1 t7_0 t8_0 t8_1 t9_0 p56 p101 lx129 lx130 lx131 lx132 lx133 lx134 lx135 lx136 lx137 lx138 lx139 lx140 lx141 p223 p268 (p268.2.2.2.2.2.2.1 : Int32) (p268.2.2.2.2.2.2.2.1 : Int32) (p268.2.2.2.2.2.2.2.2 : (Nat → Int32)) (p268.1 : Int32) (p268.2.1 : Int32) (p268.2.2.1 : (Nat → Int32)) (p268.2.2.2.1 : Int32) (p268.2.2.2.2.1 : Int32) (p268.2.2.2.2.2.1 : (Nat → Int32)) ((F_Big_copy (220 : Int32) (220 : Int32) lx133 lx134 lx135 (p268.1 : Int32) (p268.2.1 : Int32) (p268.2.2.1 : (Nat → Int32))) : (Int32 × Int32 × (Nat → Int32))))
def F_Mil_powerBelow_a_c43 (K_F_Mil_powerBelow_a_L27 : Int32 → Int32 → Int32 → (Nat → Int32) → Int32 → Int32 → (Nat → Int32) → Int32 → Int32 → (Nat → Int32) → Int32 → Int32 → (Nat → Int32) → (Int32 × Int32 × (Nat → Int32) × Int32 × Int32 × (Nat → Int32) × Int32 × Int32 × (Nat → Int32) × Int32 × Int32 × (Nat → Int32) × Int32 × Int32 × (Nat → Int32))) (R2 : Int32) (t0_0 : Int32) (t0_1 : Int32) (t1_0 : (Nat → Int32)) (t2_0 : Int32) (t2_1 : Int32) (t3_0 : (Nat → Int32)) (t4_0 : Int32) (t4_1 : Int32) (t5_0 : (Nat → Int32)) (t6_0 : Int32) (t6_1 : Int32) (t7_0 : (Nat → Int32)) (t8_0 : Int32) (t8_1 : Int32) (t9_0 : (Nat → Int32)) (p56 : (Int32 × Int32 × (Nat → Int32))) (p101 : (Int32 × Int32 × (Nat → Int32) × Int32 × Int32 × (Nat → Int32) × Int32 × Int32 × (Nat → Int32))) (lx129 : Int32) (lx130 : Int32) (lx131 : Int32) (lx132 : (Nat → Int32)) (lx133 : Int32) (lx134 : Int32) (lx135 : (Nat → Int32)) (lx136 : Int32) (lx137 : Int32) (lx138 : (Nat → Int32)) (lx139 : Int32) (lx140 : Int32) (lx141 : (Nat → Int32)) (p223 : (Int32 × Int32 × (Nat → Int32))) : Int32 × Int32 × (Nat → Int32) × Int32 × Int32 × (Nat → Int32) × Int32 × Int32 × (Nat → Int32) × Int32 × Int32 × (Nat → Int32) × Int32 × Int32 × (Nat → Int32) := F_Mil_powerBelow_a_c55 K_F_Mil_powerBelow_a_L27 R2 t0_0 t0_1 t1_0 t2_0 t2_1 t3_0 t4_0 t4_1 t5_0 t6_0 t6_1 t7_0 t8_0 t8_1 t9_0 p56 p101 lx129 lx130 lx131 lx132 lx133 lx134 lx135 lx136 lx137 lx138 lx139 lx140 lx141 p223 ((F_Big_divideBy (220 : Int32) R2 (220 : Int32) (p223.1 : Int32) (p223.2.1 : Int32) (p223.2.2 : (Nat → Int32)) lx139 lx140 lx141 lx130 lx131 lx132) : (Int32 × Int32 × (Nat → Int32) × Int32 × Int32 × (Nat → Int32) × Int32 × Int32 × (Nat → Int32)))
def F_Mil_powerBelow_a_L27 (R2 : Int32) (t0_0 : Int32) (t0_1 : Int32) (t1_0 : (Nat → Int32)) (t2_0 : Int32) (t2_1 : Int32) (t3_0 : (Nat → Int32)) (t4_0 : Int32) (t4_1 : Int32) (t5_0 : (Nat → Int32)) (t6_0 : Int32) (t6_1 : Int32) (t7_0 : (Nat → Int32)) (t8_0 : Int32) (t8_1 : Int32) (t9_0 : (Nat → Int32)) (p56 : (Int32 × Int32 × (Nat → Int32))) (p101 : (Int32 × Int32 × (Nat → Int32) × Int32 × Int32 × (Nat → Int32) × Int32 × Int32 × (Nat → Int32))) : Nat → Int32 → Int32 → Int32 → (Nat → Int32) → Int32 → Int32 → (Nat → Int32) → Int32 → Int32 → (Nat → Int32) → Int32 → Int32 → (Nat → Int32) → (Int32 × Int32 × (Nat → Int32) × Int32 × Int32 × (Nat → Int32) × Int32 × Int32 × (Nat → Int32) × Int32 × Int32 × (Nat → Int32) × Int32 × Int32 × (Nat → Int32))
  | 0, _, _, _, _, _, _, _, _, _, _, _, _, _ => default
  | fm + 1, lx129, lx130, lx131, lx132, lx133, lx134, lx135, lx136, lx137, lx138, lx139, lx140, lx141 => if lx129 < (0 : Int32) then (F_Mil_powerBelow_a_c122 (F_Mil_powerBelow_a_L27 R2 t0_0 t0_1 t1_0 t2_0 t2_1 t3_0 t4_0 t4_1 t5_0 t6_0 t6_1 t7_0 t8_0 t8_1 t9_0 p56 p101 fm) R2 t0_0 t0_1 t1_0 t2_0 t2_1 t3_0 t4_0 t4_1 t5_0 t6_0 t6_1 t7_0 t8_0 t8_1 t9_0 p56 p101 lx129 lx130 lx131 lx132 lx133 lx134 lx135 lx136 lx137 lx138 lx139 lx140 lx141 ((F_Big_copy (220 : Int32) (220 : Int32) t0_0 t0_1 t1_0 lx133 lx134 lx135) : (Int32 × Int32 × (Nat → Int32)))) else (F_Mil_powerBelow_a_c43 (F_Mil_powerBelow_a_L27 R2 t0_0 t0_1 t1_0 t2_0 t2_1 t3_0 t4_0 t4_1 t5_0 t6_0 t6_1 t7_0 t8_0 t8_1 t9_0 p56 p101 fm) R2 t0_0 t0_1 t1_0 t2_0 t2_1 t3_0 t4_0 t4_1 t5_0 t6_0 t6_1 t7_0 t8_0 t8_1 t9_0 p56 p101 lx129 lx130 lx131 lx132 lx133 lx134 lx135 lx136 lx137 lx138 lx139 lx140 lx141 ((F_Big_product (220 : Int32) (220 : Int32) (220 : Int32) lx136 lx137 lx138 lx133 lx134 lx135 lx133 lx134 lx135) : (Int32 × Int32 × (Nat → Int32))))
def F_Mil_powerBelow_a_c17 (R2 : Int32) (t0_0 : Int32) (t0_1 : Int32) (t1_0 : (Nat → Int32)) (t2_0 : Int32) (t2_1 : Int32) (t3_0 : (Nat → Int32)) (t4_0 : Int32) (t4_1 : Int32) (t5_0 : (Nat → Int32)) (t6_0 : Int32) (t6_1 : Int32) (t7_0 : (Nat → Int32)) (t8_0 : Int32) (t8_1 : Int32) (t9_0 : (Nat → Int32)) (p56 : (Int32 × Int32 × (Nat → Int32))) (p101 : (Int32 × Int32 × (Nat → Int32) × Int32 × Int32 × (Nat → Int32) × Int32 × Int32 × (Nat → Int32))) : Int32 × Int32 × (Nat → Int32) × Int32 × Int32 × (Nat → Int32) × Int32 × Int32 × (Nat → Int32) × Int32 × Int32 × (Nat → Int32) × Int32 × Int32 × (Nat → Int32) := F_Mil_powerBelow_a_L27 R2 t0_0 t0_1 t1_0 t2_0 t2_1 t3_0 t4_0 t4_1 t5_0 t6_0 t6_1 t7_0 t8_0 t8_1 t9_0 p56 p101 (((((F_Big_bitLength R2 (p101.2.2.2.1 : Int32) (p101.2.2.2.2.1 : Int32) (p101.2.2.2.2.2.1 : (Nat → Int32))) : Int32) - 1 : Int32).toInt - ((-1))).toNat + 1) (((F_Big_bitLength R2 (p101.2.2.2.1 : Int32) (p101.2.2.2.2.1 : Int32) (p101.2.2.2.2.2.1 : (Nat → Int32))) : Int32) - 1 : Int32) (p101.2.2.2.2.2.2.1 : Int32) (p101.2.2.2.2.2.2.2.1 : Int32) (p101.2.2.2.2.2.2.2.2 : (Nat → Int32)) (p101.1 : Int32) (p101.2.1 : Int32) (p101.2.2.1 : (Nat → Int32)) t6_0 t6_1 t7_0 (p101.2.2.2.1 : Int32) (p101.2.2.2.2.1 : Int32) (p101.2.2.2.2.2.1 : (Nat → Int32))
def F_Mil_powerBelow_a_c5 (R2 : Int32) (t0_0 : Int32) (t0_1 : Int32) (t1_0 : (Nat → Int32)) (t2_0 : Int32) (t2_1 : Int32) (t3_0 : (Nat → Int32)) (t4_0 : Int32) (t4_1 : Int32) (t5_0 : (Nat → Int32)) (t6_0 : Int32) (t6_1 : Int32) (t7_0 : (Nat → Int32)) (t8_0 : Int32) (t8_1 : Int32) (t9_0 : (Nat → Int32)) (p56 : (Int32 × Int32 × (Nat → Int32))) : Int32 × Int32 × (Nat → Int32) × Int32 × Int32 × (Nat → Int32) × Int32 × Int32 × (Nat → Int32) × Int32 × Int32 × (Nat → Int32) × Int32 × Int32 × (Nat → Int32) := F_Mil_powerBelow_a_c17 R2 t0_0 t0_1 t1_0 t2_0 t2_1 t3_0 t4_0 t4_1 t5_0 t6_0 t6_1 t7_0 t8_0 t8_1 t9_0 p56 ((F_Big_divideBy (220 : Int32) R2 (220 : Int32) (p56.1 : Int32) (p56.2.1 : Int32) (p56.2.2 : (Nat → Int32)) t8_0 t8_1 t9_0 t2_0 t2_1 t3_0) : (Int32 × Int32 × (Nat → Int32) × Int32 × Int32 × (Nat → Int32) × Int32 × Int32 × (Nat → Int32)))
def F_Mil_powerBelow_a (R2 : Int32) (t0_0 : Int32) (t0_1 : Int32) (t1_0 : (Nat → Int32)) (t2_0 : Int32) (t2_1 : Int32) (t3_0 : (Nat → Int32)) (t4_0 : Int32) (t4_1 : Int32) (t5_0 : (Nat → Int32)) (t6_0 : Int32) (t6_1 : Int32) (t7_0 : (Nat → Int32)) (t8_0 : Int32) (t8_1 : Int32) (t9_0 : (Nat → Int32)) : Int32 × Int32 × (Nat → Int32) × Int32 × Int32 × (Nat → Int32) × Int32 × Int32 × (Nat → Int32) × Int32 × Int32 × (Nat → Int32) × Int32 × Int32 × (Nat → Int32) := F_Mil_powerBelow_a_c5 R2 t0_0 t0_1 t1_0 t2_0 t2_1 t3_0 t4_0 t4_1 t5_0 t6_0 t6_1 t7_0 t8_0 t8_1 t9_0 ((F_Big_setLong (220 : Int32) (1 : Int64) t4_0 t4_1 t5_0) : (Int32 × Int32 × (Nat → Int32)))
def S_Mil_powerBelow_a_c122 (K_S_Mil_powerBelow_a_L27 : Int32 → Int32 → Int32 → (Nat → Int32) → Int32 → Int32 → (Nat → Int32) → Int32 → Int32 → (Nat → Int32) → Int32 → Int32 → (Nat → Int32) → Prop) (R2 : Int32) (t0_0 : Int32) (t0_1 : Int32) (t1_0 : (Nat → Int32)) (t2_0 : Int32) (t2_1 : Int32) (t3_0 : (Nat → Int32)) (t4_0 : Int32) (t4_1 : Int32) (t5_0 : (Nat → Int32)) (t6_0 : Int32) (t6_1 : Int32) (t7_0 : (Nat → Int32)) (t8_0 : Int32) (t8_1 : Int32) (t9_0 : (Nat → Int32)) (p56 : (Int32 × Int32 × (Nat → Int32))) (p101 : (Int32 × Int32 × (Nat → Int32) × Int32 × Int32 × (Nat → Int32) × Int32 × Int32 × (Nat → Int32))) (lx129 : Int32) (lx130 : Int32) (lx131 : Int32) (lx132 : (Nat → Int32)) (lx133 : Int32) (lx134 : Int32) (lx135 : (Nat → Int32)) (lx136 : Int32) (lx137 : Int32) (lx138 : (Nat → Int32)) (lx139 : Int32) (lx140 : Int32) (lx141 : (Nat → Int32)) (p198 : (Int32 × Int32 × (Nat → Int32))) : Prop := True
def S_Mil_powerBelow_a_c105 (K_S_Mil_powerBelow_a_L27 : Int32 → Int32 → Int32 → (Nat → Int32) → Int32 → Int32 → (Nat → Int32) → Int32 → Int32 → (Nat → Int32) → Int32 → Int32 → (Nat → Int32) → Prop) (R2 : Int32) (t0_0 : Int32) (t0_1 : Int32) (t1_0 : (Nat → Int32)) (t2_0 : Int32) (t2_1 : Int32) (t3_0 : (Nat → Int32)) (t4_0 : Int32) (t4_1 : Int32) (t5_0 : (Nat → Int32)) (t6_0 : Int32) (t6_1 : Int32) (t7_0 : (Nat → Int32)) (t8_0 : Int32) (t8_1 : Int32) (t9_0 : (Nat → Int32)) (p56 : (Int32 × Int32 × (Nat → Int32))) (p101 : (Int32 × Int32 × (Nat → Int32) × Int32 × Int32 × (Nat → Int32) × Int32 × Int32 × (Nat → Int32))) (lx129 : Int32) (lx130 : Int32) (lx131 : Int32) (lx132 : (Nat → Int32)) (lx133 : Int32) (lx134 : Int32) (lx135 : (Nat → Int32)) (lx136 : Int32) (lx137 : Int32) (lx138 : (Nat → Int32)) (lx139 : Int32) (lx140 : Int32) (lx141 : (Nat → Int32)) (p223 : (Int32 × Int32 × (Nat → Int32))) (p268 : (Int32 × Int32 × (Nat → Int32) × Int32 × Int32 × (Nat → Int32) × Int32 × Int32 × (Nat → Int32))) (y247 : Int32) (y248 : Int32) (f249 : (Nat → Int32)) (y237 : Int32) (y238 : Int32) (f239 : (Nat → Int32)) (y242 : Int32) (y243 : Int32) (f244 : (Nat → Int32)) (p307 : (Int32 × Int32 × (Nat → Int32))) : Prop := K_S_Mil_powerBelow_a_L27 (lx129 + (-1) : Int32) y247 y248 f249 (p307.1 : Int32) (p307.2.1 : Int32) (p307.2.2 : (Nat → Int32)) y237 y238 f239 y242 y243 f244
def S_Mil_powerBelow_a_c91 (K_S_Mil_powerBelow_a_L27 : Int32 → Int32 → Int32 → (Nat → Int32) → Int32 → Int32 → (Nat → Int32) → Int32 → Int32 → (Nat → Int32) → Int32 → Int32 → (Nat → Int32) → Prop) (R2 : Int32) (t0_0 : Int32) (t0_1 : Int32) (t1_0 : (Nat → Int32)) (t2_0 : Int32) (t2_1 : Int32) (t3_0 : (Nat → Int32)) (t4_0 : Int32) (t4_1 : Int32) (t5_0 : (Nat → Int32)) (t6_0 : Int32) (t6_1 : Int32) (t7_0 : (Nat → Int32)) (t8_0 : Int32) (t8_1 : Int32) (t9_0 : (Nat → Int32)) (p56 : (Int32 × Int32 × (Nat → Int32))) (p101 : (Int32 × Int32 × (Nat → Int32) × Int32 × Int32 × (Nat → Int32) × Int32 × Int32 × (Nat → Int32))) (lx129 : Int32) (lx130 : Int32) (lx131 : Int32) (lx132 : (Nat → Int32)) (lx133 : Int32) (lx134 : Int32) (lx135 : (Nat → Int32)) (lx136 : Int32) (lx137 : Int32) (lx138 : (Nat → Int32)) (lx139 : Int32) (lx140 : Int32) (lx141 : (Nat → Int32)) (p223 : (Int32 × Int32 × (Nat → Int32))) (p268 : (Int32 × Int32 × (Nat → Int32) × Int32 × Int32 × (Nat → Int32) × Int32 × Int32 × (Nat → Int32))) (y247 : Int32) (y248 : Int32) (f249 : (Nat → Int32)) (y237 : Int32) (y238 : Int32) (f239 : (Nat → Int32)) (y242 : Int32) (y243 : Int32) (f244 : (Nat → Int32)) (p334 : (Int32 × Int32 × (Nat → Int32))) (p379 : (Int32 × Int32 × (Nat → Int32) × Int32 × Int32 × (Nat → Int32) × Int32 × Int32 × (Nat → Int32))) : Prop := K_S_Mil_powerBelow_a_L27 (lx129 + (-1) : Int32) (p379.2.2.2.2.2.2.1 : Int32) (p379.2.2.2.2.2.2.2.1 : Int32) (p379.2.2.2.2.2.2.2.2 : (Nat → Int32)) (p379.1 : Int32) (p379.2.1 : Int32) (p379.2.2.1 : (Nat → Int32)) y237 y238 f239 (p379.2.2.2.1 : Int32) (p379.2.2.2.2.1 : Int32) (p379.2.2.2.2.2.1 : (Nat → Int32))
def S_Mil_powerBelow_a_c79 (K_S_Mil_powerBelow_a_L27 : Int32 → Int32 → Int32 → (Nat → Int32) → Int32 → Int32 → (Nat → Int32) → Int32 → Int32 → (Nat → Int32) → Int32 → Int32 → (Nat → Int32) → Prop) (R2 : Int32) (t0_0 : Int32) (t0_1 : Int32) (t1_0 : (Nat → Int32)) (t2_0 : Int32) (t2_1 : Int32) (t3_0 : (Nat → Int32)) (t4_0 : Int32) (t4_1 : Int32) (t5_0 : (Nat → Int32)) (t6_0 : Int32) (t6_1 : Int32) (t7_0 : (Nat → Int32)) (t8_0 : Int32) (t8_1 : Int32) (t9_0 : (Nat → Int32)) (p56 : (Int32 × Int32 × (Nat → Int32))) (p101 : (Int32 × Int32 × (Nat → Int32) × Int32 × Int32 × (Nat → Int32) × Int32 × Int32 × (Nat → Int32))) (lx129 : Int32) (lx130 : Int32) (lx131 : Int32) (lx132 : (Nat → Int32)) (lx133 : Int32) (lx134 : Int32) (lx135 : (Nat → Int32)) (lx136 : Int32) (lx137 : Int32) (lx138 : (Nat → Int32)) (lx139 : Int32) (lx140 : Int32) (lx141 : (Nat → Int32)) (p223 : (Int32 × Int32 × (Nat → Int32))) (p268 : (Int32 × Int32 × (Nat → Int32) × Int32 × Int32 × (Nat → Int32) × Int32 × Int32 × (Nat → Int32))) (y247 : Int32) (y248 : Int32) (f249 : (Nat → Int32)) (y237 : Int32) (y238 : Int32) (f239 : (Nat → Int32)) (y242 : Int32) (y243 : Int32) (f244 : (Nat → Int32)) (p334 : (Int32 × Int32 × (Nat → Int32))) : Prop := (True ∧ S_Big_divideBy (220 : Int32) R2 (220 : Int32) (p334.1 : Int32) (p334.2.1 : Int32) (p334.2.2 : (Nat → Int32)) y242 y243 f244 y247 y248 f249) ∧ (S_Mil_powerBelow_a_c91 K_S_Mil_powerBelow_a_L27 R2 t0_0 t0_1 t1_0 t2_0 t2_1 t3_0 t4_0 t4_1 t5_0 t6_0 t6_1 t7_0 t8_0 t8_1 t9_0 p56 p101 lx129 lx130 lx131 lx132 lx133 lx134 lx135 lx136 lx137 lx138 lx139 lx140 lx141 p223 p268 y247 y248 f249 y237 y238 f239 y242 y243 f244 p334 ((F_Big_divideBy (220 : Int32) R2 (220 : Int32) (p334.1 : Int32) (p334.2.1 : Int32) (p334.2.2 : (Nat → Int32)) y242 y243 f244 y247 y248 f249) : (Int32 × Int32 × (Nat → Int32) × Int32 × Int32 × (Nat → Int32) × Int32 × Int32 × (Nat → Int32))))
def S_Mil_powerBelow_a_c55 (K_S_Mil_powerBelow_a_L27 : Int32 → Int32 → Int32 → (Nat → Int32) → Int32 → Int32 → (Nat → Int32) → Int32 → Int32 → (Nat → Int32) → Int32 → Int32 → (Nat → Int32) → Prop) (R2 : Int32) (t0_0 : Int32) (t0_1 : Int32) (t1_0 : (Nat → Int32)) (t2_0 : Int32) (t2_1 : Int32) (t3_0 : (Nat → Int32)) (t4_0 : Int32) (t4_1 : Int32) (t5_0 : (Nat → Int32)) (t6_0 : Int32) (t6_1 : Int32) (t7_0 : (Nat → Int32)) (t8_0 : Int32) (t8_1 : Int32) (t9_0 : (Nat → Int32)) (p56 : (Int32 × Int32 × (Nat → Int32))) (p101 : (Int32 × Int32 × (Nat → Int32) × Int32 × Int32 × (Nat → Int32) × Int32 × Int32 × (Nat → Int32))) (lx129 : Int32) (lx130 : Int32) (lx131 : Int32) (lx132 : (Nat → Int32)) (lx133 : Int32) (lx134 : Int32) (lx135 : (Nat → Int32)) (lx136 : Int32) (lx137 : Int32) (lx138 : (Nat → Int32)) (lx139 : Int32) (lx140 : Int32) (lx141 : (Nat → Int32)) (p223 : (Int32 × Int32 × (Nat → Int32))) (p268 : (Int32 × Int32 × (Nat → Int32) × Int32 × Int32 × (Nat → Int32) × Int32 × Int32 × (Nat → Int32))) : Prop := if ((F_Big_bit R2 lx129 (p268.2.2.2.1 : Int32) (p268.2.2.2.2.1 : Int32) (p268.2.2.2.2.2.1 : (Nat → Int32))) : Int32) = (1 : Int32) then (S_Mil_powerBelow_a_c79 K_S_Mil_powerBelow_a_L27 R2 t0_0 t0_1 t1_0 t2_0 t2_1 t3_0 t4_0 t4_1 t5_0 t6_0 t6_1 t7_0 t8_0 t8_1 t9_0 p56 p101 lx129 lx130 lx131 lx132 lx133 lx134 lx135 lx136 lx137 lx138 lx139 lx140 lx141 p223 p268 (p268.2.2.2.2.2.2.1 : Int32) (p268.2.2.2.2.2.2.2.1 : Int32) (p268.2.2.2.2.2.2.2.2 : (Nat → Int32)) (p268.1 : Int32) (p268.2.1 : Int32) (p268.2.2.1 : (Nat → Int32)) (p268.2.2.2.1 : Int32) (p268.2.2.2.2.1 : Int32) (p268.2.2.2.2.2.1 : (Nat → Int32)) ((F_Big_product (220 : Int32) (220 : Int32) (220 : Int32) lx133 lx134 lx135 (p268.1 : Int32) (p268.2.1 : Int32) (p268.2.2.1 : (Nat → Int32)) t0_0 t0_1 t1_0) : (Int32 × Int32 × (Nat → Int32)))) else (S_Mil_powerBelow_a_c105 K_S_Mil_powerBelow_a_L27 R2 t0_0 t0_1 t1_0 t2_0 t2_1 t3_0 t4_0 t4_1 t5_0 t6_0 t6_1 t7_0 t8_0 t8_1 t9_0 p56 p101 lx129 lx130 lx131 lx132 lx133 lx134 lx135 lx136 lx137 lx138 lx139 lx140 lx141 p223 p268 (p268.2.2.2.2.2.2.1 : Int32) (p268.2.2.2.2.2.2.2.1 : Int32) (p268.2.2.2.2.2.2.2.2 : (Nat → Int32)) (p268.1 : Int32) (p268.2.1 : Int32) (p268.2.2.1 : (Nat → Int32)) (p268.2.2.2.1 : Int32) (p268.2.2.2.2.1 : Int32) (p268.2.2.2.2.2.1 : (Nat → Int32)) ((F_Big_copy (220 : Int32) (220 : Int32) lx133 lx134 lx135 (p268.1 : Int32) (p268.2.1 : Int32) (p268.2.2.1 : (Nat → Int32))) : (Int32 × Int32 × (Nat → Int32))))
def S_Mil_powerBelow_a_c43 (K_S_Mil_powerBelow_a_L27 : Int32 → Int32 → Int32 → (Nat → Int32) → Int32 → Int32 → (Nat → Int32) → Int32 → Int32 → (Nat → Int32) → Int32 → Int32 → (Nat → Int32) → Prop) (R2 : Int32) (t0_0 : Int32) (t0_1 : Int32) (t1_0 : (Nat → Int32)) (t2_0 : Int32) (t2_1 : Int32) (t3_0 : (Nat → Int32)) (t4_0 : Int32) (t4_1 : Int32) (t5_0 : (Nat → Int32)) (t6_0 : Int32) (t6_1 : Int32) (t7_0 : (Nat → Int32)) (t8_0 : Int32) (t8_1 : Int32) (t9_0 : (Nat → Int32)) (p56 : (Int32 × Int32 × (Nat → Int32))) (p101 : (Int32 × Int32 × (Nat → Int32) × Int32 × Int32 × (Nat → Int32) × Int32 × Int32 × (Nat → Int32))) (lx129 : Int32) (lx130 : Int32) (lx131 : Int32) (lx132 : (Nat → Int32)) (lx133 : Int32) (lx134 : Int32) (lx135 : (Nat → Int32)) (lx136 : Int32) (lx137 : Int32) (lx138 : (Nat → Int32)) (lx139 : Int32) (lx140 : Int32) (lx141 : (Nat → Int32)) (p223 : (Int32 × Int32 × (Nat → Int32))) : Prop := (True ∧ S_Big_divideBy (220 : Int32) R2 (220 : Int32) (p223.1 : Int32) (p223.2.1 : Int32) (p223.2.2 : (Nat → Int32)) lx139 lx140 lx141 lx130 lx131 lx132) ∧ (S_Mil_powerBelow_a_c55 K_S_Mil_powerBelow_a_L27 R2 t0_0 t0_1 t1_0 t2_0 t2_1 t3_0 t4_0 t4_1 t5_0 t6_0 t6_1 t7_0 t8_0 t8_1 t9_0 p56 p101 lx129 lx130 lx131 lx132 lx133 lx134 lx135 lx136 lx137 lx138 lx139 lx140 lx141 p223 ((F_Big_divideBy (220 : Int32) R2 (220 : Int32) (p223.1 : Int32) (p223.2.1 : Int32) (p223.2.2 : (Nat → Int32)) lx139 lx140 lx141 lx130 lx131 lx132) : (Int32 × Int32 × (Nat → Int32) × Int32 × Int32 × (Nat → Int32) × Int32 × Int32 × (Nat → Int32))))
def S_Mil_powerBelow_a_L27 (R2 : Int32) (t0_0 : Int32) (t0_1 : Int32) (t1_0 : (Nat → Int32)) (t2_0 : Int32) (t2_1 : Int32) (t3_0 : (Nat → Int32)) (t4_0 : Int32) (t4_1 : Int32) (t5_0 : (Nat → Int32)) (t6_0 : Int32) (t6_1 : Int32) (t7_0 : (Nat → Int32)) (t8_0 : Int32) (t8_1 : Int32) (t9_0 : (Nat → Int32)) (p56 : (Int32 × Int32 × (Nat → Int32))) (p101 : (Int32 × Int32 × (Nat → Int32) × Int32 × Int32 × (Nat → Int32) × Int32 × Int32 × (Nat → Int32))) : Nat → Int32 → Int32 → Int32 → (Nat → Int32) → Int32 → Int32 → (Nat → Int32) → Int32 → Int32 → (Nat → Int32) → Int32 → Int32 → (Nat → Int32) → Prop
  | 0, _, _, _, _, _, _, _, _, _, _, _, _, _ => False
  | fm + 1, lx129, lx130, lx131, lx132, lx133, lx134, lx135, lx136, lx137, lx138, lx139, lx140, lx141 => if lx129 < (0 : Int32) then (S_Mil_powerBelow_a_c122 (S_Mil_powerBelow_a_L27 R2 t0_0 t0_1 t1_0 t2_0 t2_1 t3_0 t4_0 t4_1 t5_0 t6_0 t6_1 t7_0 t8_0 t8_1 t9_0 p56 p101 fm) R2 t0_0 t0_1 t1_0 t2_0 t2_1 t3_0 t4_0 t4_1 t5_0 t6_0 t6_1 t7_0 t8_0 t8_1 t9_0 p56 p101 lx129 lx130 lx131 lx132 lx133 lx134 lx135 lx136 lx137 lx138 lx139 lx140 lx141 ((F_Big_copy (220 : Int32) (220 : Int32) t0_0 t0_1 t1_0 lx133 lx134 lx135) : (Int32 × Int32 × (Nat → Int32)))) else (S_Mil_powerBelow_a_c43 (S_Mil_powerBelow_a_L27 R2 t0_0 t0_1 t1_0 t2_0 t2_1 t3_0 t4_0 t4_1 t5_0 t6_0 t6_1 t7_0 t8_0 t8_1 t9_0 p56 p101 fm) R2 t0_0 t0_1 t1_0 t2_0 t2_1 t3_0 t4_0 t4_1 t5_0 t6_0 t6_1 t7_0 t8_0 t8_1 t9_0 p56 p101 lx129 lx130 lx131 lx132 lx133 lx134 lx135 lx136 lx137 lx138 lx139 lx140 lx141 ((F_Big_product (220 : Int32) (220 : Int32) (220 : Int32) lx136 lx137 lx138 lx133 lx134 lx135 lx133 lx134 lx135) : (Int32 × Int32 × (Nat → Int32))))
def S_Mil_powerBelow_a_c17 (R2 : Int32) (t0_0 : Int32) (t0_1 : Int32) (t1_0 : (Nat → Int32)) (t2_0 : Int32) (t2_1 : Int32) (t3_0 : (Nat → Int32)) (t4_0 : Int32) (t4_1 : Int32) (t5_0 : (Nat → Int32)) (t6_0 : Int32) (t6_1 : Int32) (t7_0 : (Nat → Int32)) (t8_0 : Int32) (t8_1 : Int32) (t9_0 : (Nat → Int32)) (p56 : (Int32 × Int32 × (Nat → Int32))) (p101 : (Int32 × Int32 × (Nat → Int32) × Int32 × Int32 × (Nat → Int32) × Int32 × Int32 × (Nat → Int32))) : Prop := S_Mil_powerBelow_a_L27 R2 t0_0 t0_1 t1_0 t2_0 t2_1 t3_0 t4_0 t4_1 t5_0 t6_0 t6_1 t7_0 t8_0 t8_1 t9_0 p56 p101 (((((F_Big_bitLength R2 (p101.2.2.2.1 : Int32) (p101.2.2.2.2.1 : Int32) (p101.2.2.2.2.2.1 : (Nat → Int32))) : Int32) - 1 : Int32).toInt - ((-1))).toNat + 1) (((F_Big_bitLength R2 (p101.2.2.2.1 : Int32) (p101.2.2.2.2.1 : Int32) (p101.2.2.2.2.2.1 : (Nat → Int32))) : Int32) - 1 : Int32) (p101.2.2.2.2.2.2.1 : Int32) (p101.2.2.2.2.2.2.2.1 : Int32) (p101.2.2.2.2.2.2.2.2 : (Nat → Int32)) (p101.1 : Int32) (p101.2.1 : Int32) (p101.2.2.1 : (Nat → Int32)) t6_0 t6_1 t7_0 (p101.2.2.2.1 : Int32) (p101.2.2.2.2.1 : Int32) (p101.2.2.2.2.2.1 : (Nat → Int32))
def S_Mil_powerBelow_a_c5 (R2 : Int32) (t0_0 : Int32) (t0_1 : Int32) (t1_0 : (Nat → Int32)) (t2_0 : Int32) (t2_1 : Int32) (t3_0 : (Nat → Int32)) (t4_0 : Int32) (t4_1 : Int32) (t5_0 : (Nat → Int32)) (t6_0 : Int32) (t6_1 : Int32) (t7_0 : (Nat → Int32)) (t8_0 : Int32) (t8_1 : Int32) (t9_0 : (Nat → Int32)) (p56 : (Int32 × Int32 × (Nat → Int32))) : Prop := (True ∧ S_Big_divideBy (220 : Int32) R2 (220 : Int32) (p56.1 : Int32) (p56.2.1 : Int32) (p56.2.2 : (Nat → Int32)) t8_0 t8_1 t9_0 t2_0 t2_1 t3_0) ∧ (S_Mil_powerBelow_a_c17 R2 t0_0 t0_1 t1_0 t2_0 t2_1 t3_0 t4_0 t4_1 t5_0 t6_0 t6_1 t7_0 t8_0 t8_1 t9_0 p56 ((F_Big_divideBy (220 : Int32) R2 (220 : Int32) (p56.1 : Int32) (p56.2.1 : Int32) (p56.2.2 : (Nat → Int32)) t8_0 t8_1 t9_0 t2_0 t2_1 t3_0) : (Int32 × Int32 × (Nat → Int32) × Int32 × Int32 × (Nat → Int32) × Int32 × Int32 × (Nat → Int32))))
def S_Mil_powerBelow_a (R2 : Int32) (t0_0 : Int32) (t0_1 : Int32) (t1_0 : (Nat → Int32)) (t2_0 : Int32) (t2_1 : Int32) (t3_0 : (Nat → Int32)) (t4_0 : Int32) (t4_1 : Int32) (t5_0 : (Nat → Int32)) (t6_0 : Int32) (t6_1 : Int32) (t7_0 : (Nat → Int32)) (t8_0 : Int32) (t8_1 : Int32) (t9_0 : (Nat → Int32)) : Prop := S_Mil_powerBelow_a_c5 R2 t0_0 t0_1 t1_0 t2_0 t2_1 t3_0 t4_0 t4_1 t5_0 t6_0 t6_1 t7_0 t8_0 t8_1 t9_0 ((F_Big_setLong (220 : Int32) (1 : Int64) t4_0 t4_1 t5_0) : (Int32 × Int32 × (Nat → Int32)))
set_option maxRecDepth 100000 in
set_option maxHeartbeats 4000000 in
theorem X_Mil_powerBelow_a (l : Launch) (D : va_G) (g : Nat → ClassId) (q : Nat → Nat) (ws : va_W) (k2 : Nat) (R2 : Int32) (hB2 : q_isBig (nsh g q) g q k2 R2) (zk2 : (10 ≤ k2 ∧ k2 ≤ 32) ∨ 66 ≤ k2) (ne_k2_10 : k2 ≠ 10) (ne_k2_11 : k2 ≠ 11) (ne_k2_9 : k2 ≠ 9) (ne_k2_12 : k2 ≠ 12) (ne_k2_13 : k2 ≠ 13) (ne_k2_11 : k2 ≠ 11) (ne_k2_14 : k2 ≠ 14) (ne_k2_15 : k2 ≠ 15) (ne_k2_13 : k2 ≠ 13) (ne_k2_18 : k2 ≠ 18) (ne_k2_19 : k2 ≠ 19) (ne_k2_17 : k2 ≠ 17) (hI : q_I (nsh g q) q ws) (t0_0 : Int32) (t0_1 : Int32) (hT0 : ws[10]? = (some (q 10, .inr (2, [.ref (q 11), .int t0_0, .int t0_1])) : Option (Nat × va_E))) (t1_0 : (Nat → Int32)) (hT1 : ws[11]? = (some (q 11, .inl (g 0, (220 : Int32).toNatClampNeg, .inl t1_0)) : Option (Nat × va_E))) (t2_0 : Int32) (t2_1 : Int32) (hT2 : ws[12]? = (some (q 12, .inr (2, [.ref (q 13), .int t2_0, .int t2_1])) : Option (Nat × va_E))) (t3_0 : (Nat → Int32)) (hT3 : ws[13]? = (some (q 13, .inl (g 0, (220 : Int32).toNatClampNeg, .inl t3_0)) : Option (Nat × va_E))) (t4_0 : Int32) (t4_1 : Int32) (hT4 : ws[14]? = (some (q 14, .inr (2, [.ref (q 15), .int t4_0, .int t4_1])) : Option (Nat × va_E))) (t5_0 : (Nat → Int32)) (hT5 : ws[15]? = (some (q 15, .inl (g 0, (220 : Int32).toNatClampNeg, .inl t5_0)) : Option (Nat × va_E))) (t6_0 : Int32) (t6_1 : Int32) (hT6 : ws[18]? = (some (q 18, .inr (2, [.ref (q 19), .int t6_0, .int t6_1])) : Option (Nat × va_E))) (t7_0 : (Nat → Int32)) (hT7 : ws[19]? = (some (q 19, .inl (g 0, (220 : Int32).toNatClampNeg, .inl t7_0)) : Option (Nat × va_E))) (t8_0 : Int32) (t8_1 : Int32) (hT8 : ws[k2]? = (some (q k2, .inr (2, [.ref (q (k2 + 1)), .int t8_0, .int t8_1])) : Option (Nat × va_E))) (t9_0 : (Nat → Int32)) (hT9 : ws[k2 + 1]? = (some (q (k2 + 1), .inl (g 0, R2.toNatClampNeg, .inl t9_0)) : Option (Nat × va_E))) (hS : True ∧ S_Mil_powerBelow_a R2 t0_0 t0_1 t1_0 t2_0 t2_1 t3_0 t4_0 t4_1 t5_0 t6_0 t6_1 t7_0 t8_0 t8_1 t9_0) : q_mV l y_Mil_powerBelow prog_8_method_7_code 4 5 0 0 D g [.ref (q 9), .ref (q k2), .ref (q k2)] ws (fun u => q_I (nsh g q) q u ∧ q_un ws u [10, 11, 12, 13, 14, 15, 18, 19, k2, k2 + 1] ∧ ∃ (u0_0 : Int32) (u0_1 : Int32) (u1_0 : (Nat → Int32)) (u2_0 : Int32) (u2_1 : Int32) (u3_0 : (Nat → Int32)) (u4_0 : Int32) (u4_1 : Int32) (u5_0 : (Nat → Int32)) (u6_0 : Int32) (u6_1 : Int32) (u7_0 : (Nat → Int32)) (u8_0 : Int32) (u8_1 : Int32) (u9_0 : (Nat → Int32)), u[10]? = (some (q 10, .inr (2, [.ref (q 11), .int u0_0, .int u0_1])) : Option (Nat × va_E)) ∧ u[11]? = (some (q 11, .inl (g 0, (220 : Int32).toNatClampNeg, .inl u1_0)) : Option (Nat × va_E)) ∧ u[12]? = (some (q 12, .inr (2, [.ref (q 13), .int u2_0, .int u2_1])) : Option (Nat × va_E)) ∧ u[13]? = (some (q 13, .inl (g 0, (220 : Int32).toNatClampNeg, .inl u3_0)) : Option (Nat × va_E)) ∧ u[14]? = (some (q 14, .inr (2, [.ref (q 15), .int u4_0, .int u4_1])) : Option (Nat × va_E)) ∧ u[15]? = (some (q 15, .inl (g 0, (220 : Int32).toNatClampNeg, .inl u5_0)) : Option (Nat × va_E)) ∧ u[18]? = (some (q 18, .inr (2, [.ref (q 19), .int u6_0, .int u6_1])) : Option (Nat × va_E)) ∧ u[19]? = (some (q 19, .inl (g 0, (220 : Int32).toNatClampNeg, .inl u7_0)) : Option (Nat × va_E)) ∧ u[k2]? = (some (q k2, .inr (2, [.ref (q (k2 + 1)), .int u8_0, .int u8_1])) : Option (Nat × va_E)) ∧ u[k2 + 1]? = (some (q (k2 + 1), .inl (g 0, R2.toNatClampNeg, .inl u9_0)) : Option (Nat × va_E)) ∧ (0 ≤ u2_1.toInt) ∧ (u2_1.toInt ≤ 0) ∧ (u8_1.toInt ≤ t8_1.toInt) ∧ (u2_1.toInt ≤ u0_0.toInt) ∧ (u0_0.toInt ≤ u4_0.toInt) ∧ (u4_1.toInt ≤ u0_1.toInt) ∧ (u0_1.toInt ≤ u4_1.toInt) ∧ (u2_1.toInt ≤ u2_0.toInt) ∧ (u2_0.toInt ≤ u2_1.toInt + 220) ∧ (u4_0.toInt ≤ u2_1.toInt + 220) ∧ (u4_1.toInt ≤ u2_1.toInt + 1) ∧ (u2_1.toInt ≤ u4_1.toInt) ∧ (u6_0.toInt ≤ u2_1.toInt + 220) ∧ (u2_1.toInt ≤ u6_0.toInt) ∧ (u6_1.toInt ≤ u2_1.toInt + 1) ∧ (u2_1.toInt ≤ u6_1.toInt) ∧ (u8_0.toInt ≤ u2_1.toInt + 220) ∧ (u2_1.toInt ≤ u8_0.toInt) ∧ (u2_1.toInt ≤ u8_1.toInt) ∧ (u0_0, u0_1, u1_0, u2_0, u2_1, u3_0, u4_0, u4_1, u5_0, u6_0, u6_1, u7_0, u8_0, u8_1, u9_0) = (F_Mil_powerBelow_a R2 t0_0 t0_1 t1_0 t2_0 t2_1 t3_0 t4_0 t4_1 t5_0 t6_0 t6_1 t7_0 t8_0 t8_1 t9_0)) := by
  intro sz
  refine q_into (by decide) (Nat.le_of_ble_eq_true rfl) ?_
  intro p e s m below meth c ls hsz C0 V hl
  have hx := C0.1
  have hb := C0.2.1
  have hfk20 : q_F (0 ≤ R2.toInt ∧ R2.toInt ≤ 220) := hB2.2.2
  have btt0_1 := (q_bigW hI (n_b10 g q) hT0).2
  clear btt0_1
  have btt2_1 := (q_bigW hI (n_b12 g q) hT2).2
  clear btt2_1
  have btt4_1 := (q_bigW hI (n_b14 g q) hT4).2
  clear btt4_1
  obtain ⟨btt6_0, btt6_1⟩ := q_bigW hI (n_b18 g q) hT6
  replace btt6_0 : q_F (0 ≤ t6_0.toInt ∧ t6_0.toInt ≤ 220) := btt6_0
  replace btt6_1 : q_F (0 ≤ t6_1.toInt ∧ t6_1.toInt ≤ 1) := btt6_1
  have btt8_1 := (q_bigW hI hB2 hT8).2
  replace btt8_1 : q_F (0 ≤ t8_1.toInt ∧ t8_1.toInt ≤ 1) := btt8_1
  have hF : q_un ws ws [10, 11, 12, 13, 14, 15, 18, 19, k2, k2 + 1] := q_u0
  have hl : lv_has ls 4 [(0, .ref (q 9)), (1, .ref (q k2)), (2, .ref (q k2))] := hl
  refine lv_aload_n hx hb d_8_7_0 rfl (lv_at hl 0 rfl) ?_
  have hO41 := n_o9 hI
  refine q_get (ci := 4) (j := 2) (v := .ref (q 14)) C0 V i_Mil rfl rfl hO41 (by decide) w_117 rfl d_8_7_1 ?_
  refine lv_lconst (v := 1) hx hb d_8_7_4 (by decide) ?_
  refine q_gov V (q_runV (As := [.long 1]) (rest := []) (d := 2) (mc := 0) (ms := 0) (ci := 2) C0 V rfl LV_Mil_77 (X_Big_setLong l D g q ws 14 220 (n_b14 g q) (by decide) 1 hI t4_0 t4_1 hT4 t5_0 hT5  _) rfl rfl hT4 rfl hl.1 rfl (Nat.le_of_ble_eq_true rfl) ⟨by decide, by decide⟩ ⟨Nat.le_of_ble_eq_true rfl, Nat.le_of_ble_eq_true rfl⟩ d_8_7_5) (fun u42 H locs hp43 V => ?_)
  obtain ⟨hI, hZ9⟩ := hp43
  obtain ⟨hu55, hZ9⟩ := hZ9
  obtain ⟨y45, hZ9⟩ := hZ9
  obtain ⟨y46, hZ9⟩ := hZ9
  obtain ⟨f47, hZ9⟩ := hZ9
  obtain ⟨hO44, hZ9⟩ := hZ9
  obtain ⟨hA48, hZ9⟩ := hZ9
  replace hZ9 := hZ9.2.2.2
  obtain ⟨b52, hZ9⟩ := hZ9
  obtain ⟨-, hE54⟩ := hZ9
  replace hO44 : u42[14]? = (some (q 14, .inr (2, [.ref (q 15), .int y45, .int y46])) : Option (Nat × va_E)) := hO44
  replace hA48 : u42[15]? = (some (q 15, .inl (g 0, (220 : Int32).toNatClampNeg, .inl f47)) : Option (Nat × va_E)) := hA48
  obtain ⟨p56, e57⟩ : ∃ z, z = (F_Big_setLong (220 : Int32) (1 : Int64) t4_0 t4_1 t5_0) := ⟨_, rfl⟩
  have e58 : y45 = p56.1 := congrArg (fun z => z.1) (hE54.trans e57.symm)
  have e59 : y46 = p56.2.1 := congrArg (fun z => z.2.1) (hE54.trans e57.symm)
  have e60 : f47 = p56.2.2 := congrArg (fun z => z.2.2) (hE54.trans e57.symm)
  replace b52 : q_F (y46.toInt ≤ 1) := b52
  replace hT0 := (hu55 _ (by decide)).trans hT0
  replace hT1 := (hu55 _ (by decide)).trans hT1
  replace hT2 := (hu55 _ (by decide)).trans hT2
  replace hT3 := (hu55 _ (by decide)).trans hT3
  replace hT6 := (hu55 _ (by decide)).trans hT6
  replace hT7 := (hu55 _ (by decide)).trans hT7
  replace hT8 := (hu55 _ (by first | exact (q_nc ne_k2_14 (q_nc ne_k2_15 List.not_mem_nil)) | (have z0 := zk2; simp only [List.mem_cons, List.not_mem_nil, or_false, not_or]; omega))).trans hT8
  replace hT9 := (hu55 _ (by first | exact (q_nc (q_nt1 ne_k2_13) (q_nc (q_nt1 ne_k2_14) List.not_mem_nil)) | (have z0 := zk2; simp only [List.mem_cons, List.not_mem_nil, or_false, not_or]; omega))).trans hT9
  replace hO41 := (hu55 _ (by decide)).trans hO41
  replace hF := q_uc hF hu55 (by first | exact (q_sk (q_mi 4 rfl) (q_sk (q_mi 5 rfl) q_s0)) | simp)
  have hR61 := (show F_Mil_powerBelow_a_c5 R2 t0_0 t0_1 t1_0 t2_0 t2_1 t3_0 t4_0 t4_1 t5_0 t6_0 t6_1 t7_0 t8_0 t8_1 t9_0 p56 = (F_Mil_powerBelow_a R2 t0_0 t0_1 t1_0 t2_0 t2_1 t3_0 t4_0 t4_1 t5_0 t6_0 t6_1 t7_0 t8_0 t8_1 t9_0) from (by rw [e57, F_Mil_powerBelow_a.eq_1]))
  have hS62 := (show True ∧ S_Mil_powerBelow_a_c5 R2 t0_0 t0_1 t1_0 t2_0 t2_1 t3_0 t4_0 t4_1 t5_0 t6_0 t6_1 t7_0 t8_0 t8_1 t9_0 p56 from (by rw [e57]; have h := hS; rw [S_Mil_powerBelow_a.eq_1] at h; with_reducible exact h))
  refine lv_aload_n hx hb d_8_7_8 rfl (lv_at hl 0 rfl) ?_
  refine q_get (ci := 4) (j := 2) (v := .ref (q 14)) C0 V i_Mil rfl rfl hO41 (by decide) w_117 rfl d_8_7_9 ?_
  refine lv_aload_n hx hb d_8_7_12 rfl (lv_at hl 2 rfl) ?_
  refine lv_aload_n hx hb d_8_7_13 rfl (lv_at hl 0 rfl) ?_
  refine q_get (ci := 4) (j := 1) (v := .ref (q 12)) C0 V i_Mil rfl rfl hO41 (by decide) w_114 rfl d_8_7_14 ?_
  have ob66 : True ∧ S_Big_divideBy (220 : Int32) R2 (220 : Int32) y45 y46 f47 t8_0 t8_1 t9_0 t2_0 t2_1 t3_0 := (by rw [e60, e59, e58]; have h := hS62; rw [S_Mil_powerBelow_a_c5.eq_1] at h; with_reducible exact h.2.1)
  refine q_gov V (q_runV (As := [.ref (q k2), .ref (q 12)]) (rest := []) (d := 4) (mc := 0) (ms := 0) (ci := 2) C0 V rfl LV_Mil_59 (X_Big_divideBy l D g q u42 14 220 (n_b14 g q) (by decide) k2 R2 hB2 zk2 12 220 (n_b12 g q) (by decide)  (by have z := ne_k2_14; omega) (by decide) (by have z := ne_k2_12; omega) hI y45 y46 hO44 f47 hA48 t8_0 t8_1 hT8 t9_0 hT9 t2_0 t2_1 hT2 t3_0 hT3 ob66 _) rfl rfl hO44 rfl hl.1 rfl (Nat.le_of_ble_eq_true rfl) ⟨by decide, by decide⟩ ⟨Nat.le_of_ble_eq_true rfl, Nat.le_of_ble_eq_true rfl⟩ d_8_7_17) (fun u67 H locs hp68 V => ?_)
  obtain ⟨hI, hZ9⟩ := hp68
  obtain ⟨hu100, hZ9⟩ := hZ9
  obtain ⟨y70, hZ9⟩ := hZ9
  obtain ⟨y71, hZ9⟩ := hZ9
  obtain ⟨f72, hZ9⟩ := hZ9
  obtain ⟨y75, hZ9⟩ := hZ9
  obtain ⟨y76, hZ9⟩ := hZ9
  obtain ⟨f77, hZ9⟩ := hZ9
  obtain ⟨y80, hZ9⟩ := hZ9
  obtain ⟨y81, hZ9⟩ := hZ9
  obtain ⟨f82, hZ9⟩ := hZ9
  obtain ⟨hO69, hZ9⟩ := hZ9
  obtain ⟨hA73, hZ9⟩ := hZ9
  obtain ⟨hO74, hZ9⟩ := hZ9
  obtain ⟨hA78, hZ9⟩ := hZ9
  obtain ⟨hO79, hZ9⟩ := hZ9
  obtain ⟨hA83, hZ9⟩ := hZ9
  obtain ⟨b84, hZ9⟩ := hZ9
  obtain ⟨b85, hZ9⟩ := hZ9
  obtain ⟨b86, hZ9⟩ := hZ9
  obtain ⟨b87, hZ9⟩ := hZ9
  replace hZ9 := hZ9.2
  obtain ⟨b89, hZ9⟩ := hZ9
  obtain ⟨b90, hZ9⟩ := hZ9
  replace hZ9 := hZ9.2.2
  obtain ⟨b93, hZ9⟩ := hZ9
  obtain ⟨b94, hZ9⟩ := hZ9
  obtain ⟨b95, hZ9⟩ := hZ9
  obtain ⟨b96, hZ9⟩ := hZ9
  obtain ⟨b97, hZ9⟩ := hZ9
  obtain ⟨b98, hE99⟩ := hZ9
  replace hO69 : u67[14]? = (some (q 14, .inr (2, [.ref (q 15), .int y70, .int y71])) : Option (Nat × va_E)) := hO69
  replace hA73 : u67[15]? = (some (q 15, .inl (g 0, (220 : Int32).toNatClampNeg, .inl f72)) : Option (Nat × va_E)) := hA73
  replace hO74 : u67[k2]? = (some (q k2, .inr (2, [.ref (q (k2 + 1)), .int y75, .int y76])) : Option (Nat × va_E)) := hO74
  replace hA78 : u67[k2 + 1]? = (some (q (k2 + 1), .inl (g 0, R2.toNatClampNeg, .inl f77)) : Option (Nat × va_E)) := hA78
  replace hO79 : u67[12]? = (some (q 12, .inr (2, [.ref (q 13), .int y80, .int y81])) : Option (Nat × va_E)) := hO79
  replace hA83 : u67[13]? = (some (q 13, .inl (g 0, (220 : Int32).toNatClampNeg, .inl f82)) : Option (Nat × va_E)) := hA83
  obtain ⟨p101, e102⟩ : ∃ z, z = (F_Big_divideBy (220 : Int32) R2 (220 : Int32) y45 y46 f47 t8_0 t8_1 t9_0 t2_0 t2_1 t3_0) := ⟨_, rfl⟩
  have e103 : y70 = p101.1 := congrArg (fun z => z.1) (hE99.trans e102.symm)
  have e104 : y71 = p101.2.1 := congrArg (fun z => z.2.1) (hE99.trans e102.symm)
  have e105 : f72 = p101.2.2.1 := congrArg (fun z => z.2.2.1) (hE99.trans e102.symm)
  have e106 : y75 = p101.2.2.2.1 := congrArg (fun z => z.2.2.2.1) (hE99.trans e102.symm)
  have e107 : y76 = p101.2.2.2.2.1 := congrArg (fun z => z.2.2.2.2.1) (hE99.trans e102.symm)
  have e108 : f77 = p101.2.2.2.2.2.1 := congrArg (fun z => z.2.2.2.2.2.1) (hE99.trans e102.symm)
  have e109 : y80 = p101.2.2.2.2.2.2.1 := congrArg (fun z => z.2.2.2.2.2.2.1) (hE99.trans e102.symm)
  have e110 : y81 = p101.2.2.2.2.2.2.2.1 := congrArg (fun z => z.2.2.2.2.2.2.2.1) (hE99.trans e102.symm)
  have e111 : f82 = p101.2.2.2.2.2.2.2.2 := congrArg (fun z => z.2.2.2.2.2.2.2.2) (hE99.trans e102.symm)
  replace b84 : q_F (0 ≤ y81.toInt) := b84
  replace b85 : q_F (y81.toInt ≤ 0) := b85
  replace b86 : q_F (y70.toInt ≤ 220) := b86
  replace b87 : q_F (y71.toInt ≤ y46.toInt) := b87
  replace b89 : q_F (y75.toInt ≤ R2.toInt) := b89
  replace b90 : q_F (y76.toInt ≤ t8_1.toInt) := b90
  replace b93 : q_F (y80.toInt ≤ 220) := b93
  replace b94 : q_F (y81.toInt ≤ y70.toInt) := b94
  replace b95 : q_F (y81.toInt ≤ y71.toInt) := b95
  replace b96 : q_F (y81.toInt ≤ y75.toInt) := b96
  replace b97 : q_F (y81.toInt ≤ y76.toInt) := b97
  replace b98 : q_F (y81.toInt ≤ y80.toInt) := b98
  replace hT0 := (hu100 _ (by first | exact (q_nc (Nat.ne_of_beq_eq_false rfl) (q_nc (Nat.ne_of_beq_eq_false rfl) (q_nc (Ne.symm ne_k2_10) (q_nc (q_ns1 ne_k2_9) (q_nc (Nat.ne_of_beq_eq_false rfl) (q_nc (Nat.ne_of_beq_eq_false rfl) List.not_mem_nil)))))) | (have z0 := zk2; simp only [List.mem_cons, List.not_mem_nil, or_false, not_or]; omega))).trans hT0
  replace hT1 := (hu100 _ (by first | exact (q_nc (Nat.ne_of_beq_eq_false rfl) (q_nc (Nat.ne_of_beq_eq_false rfl) (q_nc (Ne.symm ne_k2_11) (q_nc (q_ns1 ne_k2_10) (q_nc (Nat.ne_of_beq_eq_false rfl) (q_nc (Nat.ne_of_beq_eq_false rfl) List.not_mem_nil)))))) | (have z0 := zk2; simp only [List.mem_cons, List.not_mem_nil, or_false, not_or]; omega))).trans hT1
  replace hT6 := (hu100 _ (by first | exact (q_nc (Nat.ne_of_beq_eq_false rfl) (q_nc (Nat.ne_of_beq_eq_false rfl) (q_nc (Ne.symm ne_k2_18) (q_nc (q_ns1 ne_k2_17) (q_nc (Nat.ne_of_beq_eq_false rfl) (q_nc (Nat.ne_of_beq_eq_false rfl) List.not_mem_nil)))))) | (have z0 := zk2; simp only [List.mem_cons, List.not_mem_nil, or_false, not_or]; omega))).trans hT6
  replace hT7 := (hu100 _ (by first | exact (q_nc (Nat.ne_of_beq_eq_false rfl) (q_nc (Nat.ne_of_beq_eq_false rfl) (q_nc (Ne.symm ne_k2_19) (q_nc (q_ns1 ne_k2_18) (q_nc (Nat.ne_of_beq_eq_false rfl) (q_nc (Nat.ne_of_beq_eq_false rfl) List.not_mem_nil)))))) | (have z0 := zk2; simp only [List.mem_cons, List.not_mem_nil, or_false, not_or]; omega))).trans hT7
  replace hF := q_uc hF hu100 (by first | exact (q_sk (q_mi 4 rfl) (q_sk (q_mi 5 rfl) (q_sk (q_mi 8 rfl) (q_sk (q_mi 9 rfl) (q_sk (q_mi 2 rfl) (q_sk (q_mi 3 rfl) q_s0)))))) | simp)
  have hR112 := (show F_Mil_powerBelow_a_c17 R2 t0_0 t0_1 t1_0 t2_0 t2_1 t3_0 t4_0 t4_1 t5_0 t6_0 t6_1 t7_0 t8_0 t8_1 t9_0 p56 p101 = (F_Mil_powerBelow_a R2 t0_0 t0_1 t1_0 t2_0 t2_1 t3_0 t4_0 t4_1 t5_0 t6_0 t6_1 t7_0 t8_0 t8_1 t9_0) from Eq.trans (by rw [e102, e60, e59, e58, F_Mil_powerBelow_a_c5.eq_1]) hR61)
  have hS113 := (show True ∧ S_Mil_powerBelow_a_c17 R2 t0_0 t0_1 t1_0 t2_0 t2_1 t3_0 t4_0 t4_1 t5_0 t6_0 t6_1 t7_0 t8_0 t8_1 t9_0 p56 p101 from (by rw [e102, e60, e59, e58]; have h := hS62; rw [S_Mil_powerBelow_a_c5.eq_1] at h; replace h := q_s2 h; with_reducible exact h))
  refine lv_aload_n hx hb d_8_7_20 rfl (lv_at hl 1 rfl) ?_
  refine q_goi V (q_runV (As := []) (rest := []) (d := 3) (mc := 0) (ms := 0) (ci := 2) C0 V rfl LV_Mil_85 (X_Big_bitLength l D g q u67 k2 R2 hB2 zk2  hI y75 y76 hO74 f77 hA78  _) rfl rfl hO74 rfl hl.1 rfl (Nat.le_of_ble_eq_true rfl) ⟨by decide, by decide⟩ ⟨Nat.le_of_ble_eq_true rfl, Nat.le_of_ble_eq_true rfl⟩ d_8_7_21) (fun a119 u117 H locs hp118 V => ?_)
  obtain ⟨rfl, b120, b121, b122, hE123⟩ := hp118
  have e124 : a119 = (F_Big_bitLength R2 y75 y76 f77) := hE123
  replace b120 : q_F (0 ≤ a119.toInt) := b120
  clear b121
  clear b122
  refine lv_iconst (v := 1) hx hb d_8_7_24 (by decide) ?_
  refine lv_isub hx hb d_8_7_25 ?_
  obtain ⟨a125, e126⟩ := q_nm (a119 - 1 : Int32)
  refine q_ti (v := a125) e126 ?_
  have b127 : q_F (a125.toInt = a119.toInt - 1) := (by rw [← e126]; show (a119 - 1 : Int32).toInt = a119.toInt - 1; exact q_subI (x := a119.toInt) (y := 1) rfl (by decide) (by have t1 : 0 ≤ a119.toInt := b120; have _ := q_lo32 (x := a119); have _ := q_hi32 (x := a119); omega) (by have t1 : 0 ≤ a119.toInt := b120; have _ := q_lo32 (x := a119); have _ := q_hi32 (x := a119); omega))
  refine lv_istore_n (lv' := [(3, .int a125), (0, .ref (q 9)), (1, .ref (q k2)), (2, .ref (q k2))]) hx hb d_8_7_26 rfl hl (by decide) rfl (fun ls hl => ?_)
  refine q_loop (X := Int32 × Int32 × Int32 × (Nat → Int32) × Int32 × Int32 × (Nat → Int32) × Int32 × Int32 × (Nat → Int32) × Int32 × Int32 × (Nat → Int32)) (fun z H locs ls w165 => q_F (0 ≤ z.1.toInt + 1) ∧ q_F (0 ≤ z.2.1.toInt) ∧ q_F (z.2.1.toInt ≤ 220) ∧ q_F (0 ≤ z.2.2.2.2.1.toInt) ∧ q_F (z.2.2.2.2.1.toInt ≤ 220) ∧ q_F (0 ≤ z.2.2.2.2.2.1.toInt) ∧ q_F (z.2.2.2.2.2.1.toInt ≤ 1) ∧ q_F (0 ≤ z.2.2.2.2.2.2.2.1.toInt) ∧ q_F (z.2.2.2.2.2.2.2.1.toInt ≤ 220) ∧ q_F (0 ≤ z.2.2.2.2.2.2.2.2.1.toInt) ∧ q_F (z.2.2.2.2.2.2.2.2.1.toInt ≤ 1) ∧ q_F (0 ≤ z.2.2.2.2.2.2.2.2.2.2.1.toInt) ∧ q_F (z.2.2.2.2.2.2.2.2.2.2.1.toInt ≤ 220) ∧ q_F (0 ≤ z.2.2.2.2.2.2.2.2.2.2.2.1.toInt) ∧ q_F (y81.toInt ≤ z.2.2.1.toInt) ∧ q_F (z.2.2.1.toInt ≤ y81.toInt) ∧ q_F (z.2.2.2.2.2.2.2.2.2.2.2.1.toInt ≤ y76.toInt) ∧ q_F (z.1.toInt + z.2.2.2.2.2.1.toInt ≤ a125.toInt + y71.toInt) ∧ q_F (z.1.toInt + y71.toInt ≤ z.2.2.2.2.2.1.toInt + a125.toInt) ∧ q_F (z.1.toInt + z.2.2.2.2.2.2.2.2.1.toInt ≤ a125.toInt + t6_1.toInt) ∧ q_F (z.1.toInt + t6_1.toInt ≤ z.2.2.2.2.2.2.2.2.1.toInt + a125.toInt) ∧ q_F (z.1.toInt + y76.toInt ≤ z.2.2.2.2.2.2.2.2.2.2.2.1.toInt + a125.toInt) ∧ q_Wd D g (va_A ws sz) s w165 H locs ∧ lv_has ls 4 [(3, .int z.1), (0, .ref (q 9)), (1, .ref (q k2)), (2, .ref (q k2))] ∧ q_I (nsh g q) q w165 ∧ q_un ws w165 [10, 11, 12, 13, 14, 15, 18, 19, k2, k2 + 1] ∧ w165[10]? = (some (q 10, .inr (2, [.ref (q 11), .int t0_0, .int t0_1])) : Option (Nat × va_E)) ∧ w165[11]? = (some (q 11, .inl (g 0, (220 : Int32).toNatClampNeg, .inl t1_0)) : Option (Nat × va_E)) ∧ w165[12]? = (some (q 12, .inr (2, [.ref (q 13), .int z.2.1, .int z.2.2.1])) : Option (Nat × va_E)) ∧ w165[13]? = (some (q 13, .inl (g 0, (220 : Int32).toNatClampNeg, .inl z.2.2.2.1)) : Option (Nat × va_E)) ∧ w165[14]? = (some (q 14, .inr (2, [.ref (q 15), .int z.2.2.2.2.1, .int z.2.2.2.2.2.1])) : Option (Nat × va_E)) ∧ w165[15]? = (some (q 15, .inl (g 0, (220 : Int32).toNatClampNeg, .inl z.2.2.2.2.2.2.1)) : Option (Nat × va_E)) ∧ w165[18]? = (some (q 18, .inr (2, [.ref (q 19), .int z.2.2.2.2.2.2.2.1, .int z.2.2.2.2.2.2.2.2.1])) : Option (Nat × va_E)) ∧ w165[19]? = (some (q 19, .inl (g 0, (220 : Int32).toNatClampNeg, .inl z.2.2.2.2.2.2.2.2.2.1)) : Option (Nat × va_E)) ∧ w165[k2]? = (some (q k2, .inr (2, [.ref (q (k2 + 1)), .int z.2.2.2.2.2.2.2.2.2.2.1, .int z.2.2.2.2.2.2.2.2.2.2.2.1])) : Option (Nat × va_E)) ∧ w165[k2 + 1]? = (some (q (k2 + 1), .inl (g 0, R2.toNatClampNeg, .inl z.2.2.2.2.2.2.2.2.2.2.2.2)) : Option (Nat × va_E)) ∧ (∃ n, (z.1.toInt - ((-1))).toNat < n ∧ F_Mil_powerBelow_a_L27 R2 t0_0 t0_1 t1_0 t2_0 t2_1 t3_0 t4_0 t4_1 t5_0 t6_0 t6_1 t7_0 t8_0 t8_1 t9_0 p56 p101 n z.1 z.2.1 z.2.2.1 z.2.2.2.1 z.2.2.2.2.1 z.2.2.2.2.2.1 z.2.2.2.2.2.2.1 z.2.2.2.2.2.2.2.1 z.2.2.2.2.2.2.2.2.1 z.2.2.2.2.2.2.2.2.2.1 z.2.2.2.2.2.2.2.2.2.2.1 z.2.2.2.2.2.2.2.2.2.2.2.1 z.2.2.2.2.2.2.2.2.2.2.2.2 = (F_Mil_powerBelow_a R2 t0_0 t0_1 t1_0 t2_0 t2_1 t3_0 t4_0 t4_1 t5_0 t6_0 t6_1 t7_0 t8_0 t8_1 t9_0) ∧ True ∧ S_Mil_powerBelow_a_L27 R2 t0_0 t0_1 t1_0 t2_0 t2_1 t3_0 t4_0 t4_1 t5_0 t6_0 t6_1 t7_0 t8_0 t8_1 t9_0 p56 p101 n z.1 z.2.1 z.2.2.1 z.2.2.2.1 z.2.2.2.2.1 z.2.2.2.2.2.1 z.2.2.2.2.2.2.1 z.2.2.2.2.2.2.2.1 z.2.2.2.2.2.2.2.2.1 z.2.2.2.2.2.2.2.2.2.1 z.2.2.2.2.2.2.2.2.2.2.1 z.2.2.2.2.2.2.2.2.2.2.2.1 z.2.2.2.2.2.2.2.2.2.2.2.2)) (fun z => (z.1.toInt - ((-1))).toNat) ?_ ((a125 : Int32), (y80 : Int32), (y81 : Int32), (f82 : (Nat → Int32)), (y70 : Int32), (y71 : Int32), (f72 : (Nat → Int32)), (t6_0 : Int32), (t6_1 : Int32), (t7_0 : (Nat → Int32)), (y75 : Int32), (y76 : Int32), (f77 : (Nat → Int32))) _ _ _ u67 ⟨(show q_F (0 ≤ a125.toInt + 1) from (show 0 ≤ a125.toInt + 1 from by have t1 : 0 ≤ a119.toInt := b120; have t2 : a125.toInt = a119.toInt - 1 := b127; omega)), (show q_F (0 ≤ y80.toInt) from (show 0 ≤ y80.toInt from by have t1 : 0 ≤ y81.toInt := b84; have t2 : y81.toInt ≤ y80.toInt := b98; omega)), (show q_F (y80.toInt ≤ 220) from (show y80.toInt ≤ 220 from by have t1 : y80.toInt ≤ 220 := b93; omega)), (show q_F (0 ≤ y70.toInt) from (show 0 ≤ y70.toInt from by have t1 : 0 ≤ y81.toInt := b84; have t2 : y81.toInt ≤ y70.toInt := b94; omega)), (show q_F (y70.toInt ≤ 220) from (show y70.toInt ≤ 220 from by have t1 : y70.toInt ≤ 220 := b86; omega)), (show q_F (0 ≤ y71.toInt) from (show 0 ≤ y71.toInt from by have t1 : 0 ≤ y81.toInt := b84; have t2 : y81.toInt ≤ y71.toInt := b95; omega)), (show q_F (y71.toInt ≤ 1) from (show y71.toInt ≤ 1 from by have t1 : y46.toInt ≤ 1 := b52; have t2 : y71.toInt ≤ y46.toInt := b87; omega)), (show q_F (0 ≤ t6_0.toInt) from (show 0 ≤ t6_0.toInt from by have t1 : 0 ≤ t6_0.toInt ∧ t6_0.toInt ≤ 220 := btt6_0; omega)), (show q_F (t6_0.toInt ≤ 220) from (show t6_0.toInt ≤ 220 from by have t1 : 0 ≤ t6_0.toInt ∧ t6_0.toInt ≤ 220 := btt6_0; omega)), (show q_F (0 ≤ t6_1.toInt) from (show 0 ≤ t6_1.toInt from by have t1 : 0 ≤ t6_1.toInt ∧ t6_1.toInt ≤ 1 := btt6_1; omega)), (show q_F (t6_1.toInt ≤ 1) from (show t6_1.toInt ≤ 1 from by have t1 : 0 ≤ t6_1.toInt ∧ t6_1.toInt ≤ 1 := btt6_1; omega)), (show q_F (0 ≤ y75.toInt) from (show 0 ≤ y75.toInt from by have t1 : 0 ≤ y81.toInt := b84; have t2 : y81.toInt ≤ y75.toInt := b96; omega)), (show q_F (y75.toInt ≤ 220) from (show y75.toInt ≤ 220 from by have t1 : 0 ≤ R2.toInt ∧ R2.toInt ≤ 220 := hfk20; have t2 : y75.toInt ≤ R2.toInt := b89; omega)), (show q_F (0 ≤ y76.toInt) from (show 0 ≤ y76.toInt from by have t1 : 0 ≤ y81.toInt := b84; have t2 : y81.toInt ≤ y76.toInt := b97; omega)), (show q_F (y81.toInt ≤ y81.toInt) from (show y81.toInt ≤ y81.toInt from by omega)), (show q_F (y81.toInt ≤ y81.toInt) from (show y81.toInt ≤ y81.toInt from by omega)), (show q_F (y76.toInt ≤ y76.toInt) from (show y76.toInt ≤ y76.toInt from by omega)), (show q_F (a125.toInt + y71.toInt ≤ a125.toInt + y71.toInt) from (show a125.toInt + y71.toInt ≤ a125.toInt + y71.toInt from by omega)), (show q_F (a125.toInt + y71.toInt ≤ y71.toInt + a125.toInt) from (show a125.toInt + y71.toInt ≤ y71.toInt + a125.toInt from by omega)), (show q_F (a125.toInt + t6_1.toInt ≤ a125.toInt + t6_1.toInt) from (show a125.toInt + t6_1.toInt ≤ a125.toInt + t6_1.toInt from by omega)), (show q_F (a125.toInt + t6_1.toInt ≤ t6_1.toInt + a125.toInt) from (show a125.toInt + t6_1.toInt ≤ t6_1.toInt + a125.toInt from by omega)), (show q_F (a125.toInt + y76.toInt ≤ y76.toInt + a125.toInt) from (show a125.toInt + y76.toInt ≤ y76.toInt + a125.toInt from by omega)), V, q_lw hl (q_lw1 0 rfl (q_lw1 1 rfl (q_lw1 2 rfl (q_lw1 3 rfl q_lw0)))), hI, hF, hT0, hT1, hO79, hA83, hO69, hA73, hT6, hT7, hO74, hA78, ⟨((a125.toInt - ((-1))).toNat + 1), Nat.lt_succ_self _, (show F_Mil_powerBelow_a_L27 R2 t0_0 t0_1 t1_0 t2_0 t2_1 t3_0 t4_0 t4_1 t5_0 t6_0 t6_1 t7_0 t8_0 t8_1 t9_0 p56 p101 ((a125.toInt - ((-1))).toNat + 1) a125 y80 y81 f82 y70 y71 f72 t6_0 t6_1 t7_0 y75 y76 f77 = (F_Mil_powerBelow_a R2 t0_0 t0_1 t1_0 t2_0 t2_1 t3_0 t4_0 t4_1 t5_0 t6_0 t6_1 t7_0 t8_0 t8_1 t9_0) from Eq.trans (by rw [← e126, e124, e111, e110, e109, e108, e107, e106, e105, e104, e103, F_Mil_powerBelow_a_c17.eq_1]) hR112), (show True ∧ S_Mil_powerBelow_a_L27 R2 t0_0 t0_1 t1_0 t2_0 t2_1 t3_0 t4_0 t4_1 t5_0 t6_0 t6_1 t7_0 t8_0 t8_1 t9_0 p56 p101 ((a125.toInt - ((-1))).toNat + 1) a125 y80 y81 f82 y70 y71 f72 t6_0 t6_1 t7_0 y75 y76 f77 from (by rw [← e126, e124, e111, e110, e109, e108, e107, e106, e105, e104, e103]; have h := hS113; rw [S_Mil_powerBelow_a_c17.eq_1] at h; with_reducible exact h))⟩⟩
  rintro ⟨lx129, lx130, lx131, lx132, lx133, lx134, lx135, lx136, lx137, lx138, lx139, lx140, lx141⟩ H locs ls w165 ⟨i142, i143, i144, i145, i146, i147, i148, i149, i150, i151, i152, i153, i154, i155, i156, i157, i158, i159, i160, i161, i162, i163, V, hl, hI, hF, hO166, hO167, hO168, hO169, hO170, hO171, hO172, hO173, hO174, hO175, ⟨fu178, hf179, hR176, hS177⟩⟩ ih164
  obtain ⟨fm180, rfl⟩ : ∃ m, fu178 = m + 1 := ⟨fu178 - 1, by omega⟩
  replace i142 : q_F (0 ≤ lx129.toInt + 1) := i142
  replace i143 : q_F (0 ≤ lx130.toInt) := i143
  replace i144 : q_F (lx130.toInt ≤ 220) := i144
  clear i145
  replace i146 : q_F (lx133.toInt ≤ 220) := i146
  replace i147 : q_F (0 ≤ lx134.toInt) := i147
  replace i148 : q_F (lx134.toInt ≤ 1) := i148
  replace i149 : q_F (0 ≤ lx136.toInt) := i149
  replace i150 : q_F (lx136.toInt ≤ 220) := i150
  replace i151 : q_F (0 ≤ lx137.toInt) := i151
  replace i152 : q_F (lx137.toInt ≤ 1) := i152
  replace i153 : q_F (0 ≤ lx139.toInt) := i153
  replace i154 : q_F (lx139.toInt ≤ 220) := i154
  replace i155 : q_F (0 ≤ lx140.toInt) := i155
  replace i156 : q_F (y81.toInt ≤ lx131.toInt) := i156
  replace i157 : q_F (lx131.toInt ≤ y81.toInt) := i157
  replace i158 : q_F (lx140.toInt ≤ y76.toInt) := i158
  replace i159 : q_F (lx129.toInt + lx134.toInt ≤ a125.toInt + y71.toInt) := i159
  replace i160 : q_F (lx129.toInt + y71.toInt ≤ lx134.toInt + a125.toInt) := i160
  clear i161
  clear i162
  clear i163
  replace hl : lv_has ls 4 [(3, .int lx129), (0, .ref (q 9)), (1, .ref (q k2)), (2, .ref (q k2))] := hl
  replace hO166 : w165[10]? = (some (q 10, .inr (2, [.ref (q 11), .int t0_0, .int t0_1])) : Option (Nat × va_E)) := hO166
  replace hO167 : w165[11]? = (some (q 11, .inl (g 0, (220 : Int32).toNatClampNeg, .inl t1_0)) : Option (Nat × va_E)) := hO167
  replace hO168 : w165[12]? = (some (q 12, .inr (2, [.ref (q 13), .int lx130, .int lx131])) : Option (Nat × va_E)) := hO168
  replace hO169 : w165[13]? = (some (q 13, .inl (g 0, (220 : Int32).toNatClampNeg, .inl lx132)) : Option (Nat × va_E)) := hO169
  replace hO170 : w165[14]? = (some (q 14, .inr (2, [.ref (q 15), .int lx133, .int lx134])) : Option (Nat × va_E)) := hO170
  replace hO171 : w165[15]? = (some (q 15, .inl (g 0, (220 : Int32).toNatClampNeg, .inl lx135)) : Option (Nat × va_E)) := hO171
  replace hO172 : w165[18]? = (some (q 18, .inr (2, [.ref (q 19), .int lx136, .int lx137])) : Option (Nat × va_E)) := hO172
  replace hO173 : w165[19]? = (some (q 19, .inl (g 0, (220 : Int32).toNatClampNeg, .inl lx138)) : Option (Nat × va_E)) := hO173
  replace hO174 : w165[k2]? = (some (q k2, .inr (2, [.ref (q (k2 + 1)), .int lx139, .int lx140])) : Option (Nat × va_E)) := hO174
  replace hO175 : w165[k2 + 1]? = (some (q (k2 + 1), .inl (g 0, R2.toNatClampNeg, .inl lx141)) : Option (Nat × va_E)) := hO175
  refine lv_iload_n hx hb d_8_7_27 rfl (lv_at hl 0 rfl) ?_
  refine lv_if_lt (tgt := 114) hx hb d_8_7_28 (by decide) (fun c181 => ?_) (fun c181 => ?_)
  ·
    refine lv_aload_n hx hb d_8_7_114 rfl (lv_at hl 1 rfl) ?_
    have hO183 := n_o9 hI
    refine q_get (ci := 4) (j := 0) (v := .ref (q 10)) C0 V i_Mil rfl rfl hO183 (by decide) w_108 rfl d_8_7_115 ?_
    refine lv_aload_n hx hb d_8_7_118 rfl (lv_at hl 1 rfl) ?_
    refine q_get (ci := 4) (j := 2) (v := .ref (q 14)) C0 V i_Mil rfl rfl hO183 (by decide) w_117 rfl d_8_7_119 ?_
    refine q_gov V (q_runV (As := [.ref (q 14)]) (rest := []) (d := 2) (mc := 0) (ms := 0) (ci := 2) C0 V rfl LV_Mil_51 (X_Big_copy l D g q w165 10 220 (n_b10 g q) (by decide) 14 220 (n_b14 g q) (by decide)  (by decide) hI t0_0 t0_1 hO166 t1_0 hO167 lx133 lx134 hO170 lx135 hO171  _) rfl rfl hO166 rfl hl.1 rfl (Nat.le_of_ble_eq_true rfl) ⟨by decide, by decide⟩ ⟨Nat.le_of_ble_eq_true rfl, Nat.le_of_ble_eq_true rfl⟩ d_8_7_122) (fun u184 H locs hp185 V => ?_)
    obtain ⟨hI, hZ9⟩ := hp185
    obtain ⟨hu197, hZ9⟩ := hZ9
    obtain ⟨y187, hZ9⟩ := hZ9
    obtain ⟨y188, hZ9⟩ := hZ9
    obtain ⟨f189, hZ9⟩ := hZ9
    obtain ⟨hO186, hZ9⟩ := hZ9
    obtain ⟨hA190, hZ9⟩ := hZ9
    obtain ⟨b191, hZ9⟩ := hZ9
    obtain ⟨b192, hZ9⟩ := hZ9
    replace hZ9 := hZ9.2
    obtain ⟨b194, hZ9⟩ := hZ9
    obtain ⟨b195, hE196⟩ := hZ9
    replace hO186 : u184[10]? = (some (q 10, .inr (2, [.ref (q 11), .int y187, .int y188])) : Option (Nat × va_E)) := hO186
    replace hA190 : u184[11]? = (some (q 11, .inl (g 0, (220 : Int32).toNatClampNeg, .inl f189)) : Option (Nat × va_E)) := hA190
    obtain ⟨p198, e199⟩ : ∃ z, z = (F_Big_copy (220 : Int32) (220 : Int32) t0_0 t0_1 t1_0 lx133 lx134 lx135) := ⟨_, rfl⟩
    have e200 : y187 = p198.1 := congrArg (fun z => z.1) (hE196.trans e199.symm)
    have e201 : y188 = p198.2.1 := congrArg (fun z => z.2.1) (hE196.trans e199.symm)
    have e202 : f189 = p198.2.2 := congrArg (fun z => z.2.2) (hE196.trans e199.symm)
    replace b191 : q_F (0 ≤ y187.toInt) := b191
    replace b192 : q_F (y187.toInt ≤ lx133.toInt) := b192
    replace b194 : q_F (lx134.toInt ≤ y188.toInt) := b194
    replace b195 : q_F (y188.toInt ≤ lx134.toInt) := b195
    replace hO168 := (hu197 _ (by decide)).trans hO168
    replace hO169 := (hu197 _ (by decide)).trans hO169
    replace hO170 := (hu197 _ (by decide)).trans hO170
    replace hO171 := (hu197 _ (by decide)).trans hO171
    replace hO172 := (hu197 _ (by decide)).trans hO172
    replace hO173 := (hu197 _ (by decide)).trans hO173
    replace hO174 := (hu197 _ (by first | exact (q_nc ne_k2_10 (q_nc ne_k2_11 List.not_mem_nil)) | (have z0 := zk2; simp only [List.mem_cons, List.not_mem_nil, or_false, not_or]; omega))).trans hO174
    replace hO175 := (hu197 _ (by first | exact (q_nc (q_nt1 ne_k2_9) (q_nc (q_nt1 ne_k2_10) List.not_mem_nil)) | (have z0 := zk2; simp only [List.mem_cons, List.not_mem_nil, or_false, not_or]; omega))).trans hO175
    replace hF := q_uc hF hu197 (by first | exact (q_sk (q_mi 0 rfl) (q_sk (q_mi 1 rfl) q_s0)) | simp)
    have hR203 := (show F_Mil_powerBelow_a_c122 (F_Mil_powerBelow_a_L27 R2 t0_0 t0_1 t1_0 t2_0 t2_1 t3_0 t4_0 t4_1 t5_0 t6_0 t6_1 t7_0 t8_0 t8_1 t9_0 p56 p101 fm180) R2 t0_0 t0_1 t1_0 t2_0 t2_1 t3_0 t4_0 t4_1 t5_0 t6_0 t6_1 t7_0 t8_0 t8_1 t9_0 p56 p101 lx129 lx130 lx131 lx132 lx133 lx134 lx135 lx136 lx137 lx138 lx139 lx140 lx141 p198 = (F_Mil_powerBelow_a R2 t0_0 t0_1 t1_0 t2_0 t2_1 t3_0 t4_0 t4_1 t5_0 t6_0 t6_1 t7_0 t8_0 t8_1 t9_0) from Eq.trans (by rw [e199, F_Mil_powerBelow_a_L27.eq_2, if_pos c181]) hR176)
    have hS204 := (show True ∧ S_Mil_powerBelow_a_c122 (S_Mil_powerBelow_a_L27 R2 t0_0 t0_1 t1_0 t2_0 t2_1 t3_0 t4_0 t4_1 t5_0 t6_0 t6_1 t7_0 t8_0 t8_1 t9_0 p56 p101 fm180) R2 t0_0 t0_1 t1_0 t2_0 t2_1 t3_0 t4_0 t4_1 t5_0 t6_0 t6_1 t7_0 t8_0 t8_1 t9_0 p56 p101 lx129 lx130 lx131 lx132 lx133 lx134 lx135 lx136 lx137 lx138 lx139 lx140 lx141 p198 from (by rw [e199]; have h := hS177; rw [S_Mil_powerBelow_a_L27.eq_2] at h; rw [if_pos c181] at h; with_reducible exact h))
    exact q_retv C0 V (⟨hI, hF, y187, y188, f189, lx130, lx131, lx132, lx133, lx134, lx135, lx136, lx137, lx138, lx139, lx140, lx141, hO186, hA190, hO168, hO169, hO170, hO171, hO172, hO173, hO174, hO175, (show 0 ≤ lx131.toInt from (by have t1 : 0 ≤ y81.toInt := b84; have t2 : y81.toInt ≤ lx131.toInt := i156; omega)), (show lx131.toInt ≤ 0 from (by have t1 : y81.toInt ≤ 0 := b85; have t2 : lx131.toInt ≤ y81.toInt := i157; omega)), (show lx140.toInt ≤ t8_1.toInt from (by have t1 : y76.toInt ≤ t8_1.toInt := b90; have t2 : lx140.toInt ≤ y76.toInt := i158; omega)), (show lx131.toInt ≤ y187.toInt from (by have t1 : y81.toInt ≤ 0 := b85; have t2 : lx131.toInt ≤ y81.toInt := i157; have t3 : 0 ≤ y187.toInt := b191; omega)), (show y187.toInt ≤ lx133.toInt from (by first | with_reducible exact q_fe b192 | (have t1 : y187.toInt ≤ lx133.toInt := b192; omega))), (show lx134.toInt ≤ y188.toInt from (by first | with_reducible exact q_fe b194 | (have t1 : lx134.toInt ≤ y188.toInt := b194; omega))), (show y188.toInt ≤ lx134.toInt from (by first | with_reducible exact q_fe b195 | (have t1 : y188.toInt ≤ lx134.toInt := b195; omega))), (show lx131.toInt ≤ lx130.toInt from (by have t1 : y81.toInt ≤ 0 := b85; have t2 : 0 ≤ lx130.toInt := i143; have t3 : lx131.toInt ≤ y81.toInt := i157; omega)), (show lx130.toInt ≤ lx131.toInt + 220 from (by have t1 : 0 ≤ y81.toInt := b84; have t2 : lx130.toInt ≤ 220 := i144; have t3 : y81.toInt ≤ lx131.toInt := i156; omega)), (show lx133.toInt ≤ lx131.toInt + 220 from (by have t1 : 0 ≤ y81.toInt := b84; have t2 : lx133.toInt ≤ 220 := i146; have t3 : y81.toInt ≤ lx131.toInt := i156; omega)), (show lx134.toInt ≤ lx131.toInt + 1 from (by have t1 : 0 ≤ y81.toInt := b84; have t2 : lx134.toInt ≤ 1 := i148; have t3 : y81.toInt ≤ lx131.toInt := i156; omega)), (show lx131.toInt ≤ lx134.toInt from (by have t1 : y81.toInt ≤ 0 := b85; have t2 : 0 ≤ lx134.toInt := i147; have t3 : lx131.toInt ≤ y81.toInt := i157; omega)), (show lx136.toInt ≤ lx131.toInt + 220 from (by have t1 : 0 ≤ y81.toInt := b84; have t2 : lx136.toInt ≤ 220 := i150; have t3 : y81.toInt ≤ lx131.toInt := i156; omega)), (show lx131.toInt ≤ lx136.toInt from (by have t1 : y81.toInt ≤ 0 := b85; have t2 : 0 ≤ lx136.toInt := i149; have t3 : lx131.toInt ≤ y81.toInt := i157; omega)), (show lx137.toInt ≤ lx131.toInt + 1 from (by have t1 : 0 ≤ y81.toInt := b84; have t2 : lx137.toInt ≤ 1 := i152; have t3 : y81.toInt ≤ lx131.toInt := i156; omega)), (show lx131.toInt ≤ lx137.toInt from (by have t1 : y81.toInt ≤ 0 := b85; have t2 : 0 ≤ lx137.toInt := i151; have t3 : lx131.toInt ≤ y81.toInt := i157; omega)), (show lx139.toInt ≤ lx131.toInt + 220 from (by have t1 : 0 ≤ y81.toInt := b84; have t2 : lx139.toInt ≤ 220 := i154; have t3 : y81.toInt ≤ lx131.toInt := i156; omega)), (show lx131.toInt ≤ lx139.toInt from (by have t1 : y81.toInt ≤ 0 := b85; have t2 : 0 ≤ lx139.toInt := i153; have t3 : lx131.toInt ≤ y81.toInt := i157; omega)), (show lx131.toInt ≤ lx140.toInt from (by have t1 : y81.toInt ≤ 0 := b85; have t2 : 0 ≤ lx140.toInt := i155; have t3 : lx131.toInt ≤ y81.toInt := i157; omega)), (show (y187, y188, f189, lx130, lx131, lx132, lx133, lx134, lx135, lx136, lx137, lx138, lx139, lx140, lx141) = (F_Mil_powerBelow_a R2 t0_0 t0_1 t1_0 t2_0 t2_1 t3_0 t4_0 t4_1 t5_0 t6_0 t6_1 t7_0 t8_0 t8_1 t9_0) from Eq.trans (by rw [e202, e201, e200, F_Mil_powerBelow_a_c122.eq_1]) hR203)⟩) d_8_7_125
  ·
    have b208 : q_F (0 ≤ lx129.toInt) := (q_nltI c181)
    refine lv_aload_n hx hb d_8_7_31 rfl (lv_at hl 1 rfl) ?_
    have hO209 := n_o9 hI
    refine q_get (ci := 4) (j := 4) (v := .ref (q 18)) C0 V i_Mil rfl rfl hO209 (by decide) w_123 rfl d_8_7_32 ?_
    refine lv_aload_n hx hb d_8_7_35 rfl (lv_at hl 1 rfl) ?_
    refine q_get (ci := 4) (j := 2) (v := .ref (q 14)) C0 V i_Mil rfl rfl hO209 (by decide) w_117 rfl d_8_7_36 ?_
    refine lv_aload_n hx hb d_8_7_39 rfl (lv_at hl 1 rfl) ?_
    refine q_get (ci := 4) (j := 2) (v := .ref (q 14)) C0 V i_Mil rfl rfl hO209 (by decide) w_117 rfl d_8_7_40 ?_
    refine q_gov V (q_runV (As := [.ref (q 14), .ref (q 14)]) (rest := []) (d := 3) (mc := 0) (ms := 0) (ci := 2) C0 V rfl LV_Mil_47 (X_Big_product l D g q w165 18 220 (n_b18 g q) (by decide) 14 220 (n_b14 g q) (by decide) 14 220 (n_b14 g q) (by decide)  (by decide) (by decide) hI lx136 lx137 hO172 lx138 hO173 lx133 lx134 hO170 lx135 hO171 lx133 lx134 hO170 lx135 hO171  _) rfl rfl hO172 rfl hl.1 rfl (Nat.le_of_ble_eq_true rfl) ⟨by decide, by decide⟩ ⟨Nat.le_of_ble_eq_true rfl, Nat.le_of_ble_eq_true rfl⟩ d_8_7_43) (fun u210 H locs hp211 V => ?_)
    obtain ⟨hI, hZ9⟩ := hp211
    obtain ⟨hu222, hZ9⟩ := hZ9
    obtain ⟨y213, hZ9⟩ := hZ9
    obtain ⟨y214, hZ9⟩ := hZ9
    obtain ⟨f215, hZ9⟩ := hZ9
    obtain ⟨hO212, hZ9⟩ := hZ9
    obtain ⟨hA216, hZ9⟩ := hZ9
    replace hZ9 := hZ9.2
    obtain ⟨b218, hZ9⟩ := hZ9
    replace hZ9 := hZ9.2
    obtain ⟨-, hE221⟩ := hZ9
    replace hO212 : u210[18]? = (some (q 18, .inr (2, [.ref (q 19), .int y213, .int y214])) : Option (Nat × va_E)) := hO212
    replace hA216 : u210[19]? = (some (q 19, .inl (g 0, (220 : Int32).toNatClampNeg, .inl f215)) : Option (Nat × va_E)) := hA216
    obtain ⟨p223, e224⟩ : ∃ z, z = (F_Big_product (220 : Int32) (220 : Int32) (220 : Int32) lx136 lx137 lx138 lx133 lx134 lx135 lx133 lx134 lx135) := ⟨_, rfl⟩
    have e225 : y213 = p223.1 := congrArg (fun z => z.1) (hE221.trans e224.symm)
    have e226 : y214 = p223.2.1 := congrArg (fun z => z.2.1) (hE221.trans e224.symm)
    have e227 : f215 = p223.2.2 := congrArg (fun z => z.2.2) (hE221.trans e224.symm)
    replace b218 : q_F (y214.toInt ≤ 1) := b218
    replace hO166 := (hu222 _ (by decide)).trans hO166
    replace hO167 := (hu222 _ (by decide)).trans hO167
    replace hO168 := (hu222 _ (by decide)).trans hO168
    replace hO169 := (hu222 _ (by decide)).trans hO169
    replace hO170 := (hu222 _ (by decide)).trans hO170
    replace hO171 := (hu222 _ (by decide)).trans hO171
    replace hO174 := (hu222 _ (by first | exact (q_nc ne_k2_18 (q_nc ne_k2_19 List.not_mem_nil)) | (have z0 := zk2; simp only [List.mem_cons, List.not_mem_nil, or_false, not_or]; omega))).trans hO174
    replace hO175 := (hu222 _ (by first | exact (q_nc (q_nt1 ne_k2_17) (q_nc (q_nt1 ne_k2_18) List.not_mem_nil)) | (have z0 := zk2; simp only [List.mem_cons, List.not_mem_nil, or_false, not_or]; omega))).trans hO175
    replace hO209 := (hu222 _ (by decide)).trans hO209
    replace hF := q_uc hF hu222 (by first | exact (q_sk (q_mi 6 rfl) (q_sk (q_mi 7 rfl) q_s0)) | simp)
    have hR228 := (show F_Mil_powerBelow_a_c43 (F_Mil_powerBelow_a_L27 R2 t0_0 t0_1 t1_0 t2_0 t2_1 t3_0 t4_0 t4_1 t5_0 t6_0 t6_1 t7_0 t8_0 t8_1 t9_0 p56 p101 fm180) R2 t0_0 t0_1 t1_0 t2_0 t2_1 t3_0 t4_0 t4_1 t5_0 t6_0 t6_1 t7_0 t8_0 t8_1 t9_0 p56 p101 lx129 lx130 lx131 lx132 lx133 lx134 lx135 lx136 lx137 lx138 lx139 lx140 lx141 p223 = (F_Mil_powerBelow_a R2 t0_0 t0_1 t1_0 t2_0 t2_1 t3_0 t4_0 t4_1 t5_0 t6_0 t6_1 t7_0 t8_0 t8_1 t9_0) from Eq.trans (by rw [e224, F_Mil_powerBelow_a_L27.eq_2, if_neg c181]) hR176)
    have hS229 := (show True ∧ S_Mil_powerBelow_a_c43 (S_Mil_powerBelow_a_L27 R2 t0_0 t0_1 t1_0 t2_0 t2_1 t3_0 t4_0 t4_1 t5_0 t6_0 t6_1 t7_0 t8_0 t8_1 t9_0 p56 p101 fm180) R2 t0_0 t0_1 t1_0 t2_0 t2_1 t3_0 t4_0 t4_1 t5_0 t6_0 t6_1 t7_0 t8_0 t8_1 t9_0 p56 p101 lx129 lx130 lx131 lx132 lx133 lx134 lx135 lx136 lx137 lx138 lx139 lx140 lx141 p223 from (by rw [e224]; have h := hS177; rw [S_Mil_powerBelow_a_L27.eq_2] at h; rw [if_neg c181] at h; with_reducible exact h))
    refine lv_aload_n hx hb d_8_7_46 rfl (lv_at hl 1 rfl) ?_
    refine q_get (ci := 4) (j := 4) (v := .ref (q 18)) C0 V i_Mil rfl rfl hO209 (by decide) w_123 rfl d_8_7_47 ?_
    refine lv_aload_n hx hb d_8_7_50 rfl (lv_at hl 3 rfl) ?_
    refine lv_aload_n hx hb d_8_7_51 rfl (lv_at hl 1 rfl) ?_
    refine q_get (ci := 4) (j := 1) (v := .ref (q 12)) C0 V i_Mil rfl rfl hO209 (by decide) w_114 rfl d_8_7_52 ?_
    have ob233 : True ∧ S_Big_divideBy (220 : Int32) R2 (220 : Int32) y213 y214 f215 lx139 lx140 lx141 lx130 lx131 lx132 := (by rw [e227, e226, e225]; have h := hS229; rw [S_Mil_powerBelow_a_c43.eq_1] at h; with_reducible exact h.2.1)
    refine q_gov V (q_runV (As := [.ref (q k2), .ref (q 12)]) (rest := []) (d := 4) (mc := 0) (ms := 0) (ci := 2) C0 V rfl LV_Mil_59 (X_Big_divideBy l D g q u210 18 220 (n_b18 g q) (by decide) k2 R2 hB2 zk2 12 220 (n_b12 g q) (by decide)  (by have z := ne_k2_18; omega) (by decide) (by have z := ne_k2_12; omega) hI y213 y214 hO212 f215 hA216 lx139 lx140 hO174 lx141 hO175 lx130 lx131 hO168 lx132 hO169 ob233 _) rfl rfl hO212 rfl hl.1 rfl (Nat.le_of_ble_eq_true rfl) ⟨by decide, by decide⟩ ⟨Nat.le_of_ble_eq_true rfl, Nat.le_of_ble_eq_true rfl⟩ d_8_7_55) (fun u234 H locs hp235 V => ?_)
    obtain ⟨hI, hZ9⟩ := hp235
    obtain ⟨hu267, hZ9⟩ := hZ9
    obtain ⟨y237, hZ9⟩ := hZ9
    obtain ⟨y238, hZ9⟩ := hZ9
    obtain ⟨f239, hZ9⟩ := hZ9
    obtain ⟨y242, hZ9⟩ := hZ9
    obtain ⟨y243, hZ9⟩ := hZ9
    obtain ⟨f244, hZ9⟩ := hZ9
    obtain ⟨y247, hZ9⟩ := hZ9
    obtain ⟨y248, hZ9⟩ := hZ9
    obtain ⟨f249, hZ9⟩ := hZ9
    obtain ⟨hO236, hZ9⟩ := hZ9
    obtain ⟨hA240, hZ9⟩ := hZ9
    obtain ⟨hO241, hZ9⟩ := hZ9
    obtain ⟨hA245, hZ9⟩ := hZ9
    obtain ⟨hO246, hZ9⟩ := hZ9
    obtain ⟨hA250, hZ9⟩ := hZ9
    obtain ⟨b251, hZ9⟩ := hZ9
    obtain ⟨b252, hZ9⟩ := hZ9
    obtain ⟨b253, hZ9⟩ := hZ9
    obtain ⟨b254, hZ9⟩ := hZ9
    replace hZ9 := hZ9.2
    obtain ⟨b256, hZ9⟩ := hZ9
    obtain ⟨b257, hZ9⟩ := hZ9
    replace hZ9 := hZ9.2.2
    obtain ⟨b260, hZ9⟩ := hZ9
    obtain ⟨b261, hZ9⟩ := hZ9
    obtain ⟨b262, hZ9⟩ := hZ9
    obtain ⟨b263, hZ9⟩ := hZ9
    obtain ⟨b264, hZ9⟩ := hZ9
    obtain ⟨b265, hE266⟩ := hZ9
    replace hO236 : u234[18]? = (some (q 18, .inr (2, [.ref (q 19), .int y237, .int y238])) : Option (Nat × va_E)) := hO236
    replace hA240 : u234[19]? = (some (q 19, .inl (g 0, (220 : Int32).toNatClampNeg, .inl f239)) : Option (Nat × va_E)) := hA240
    replace hO241 : u234[k2]? = (some (q k2, .inr (2, [.ref (q (k2 + 1)), .int y242, .int y243])) : Option (Nat × va_E)) := hO241
    replace hA245 : u234[k2 + 1]? = (some (q (k2 + 1), .inl (g 0, R2.toNatClampNeg, .inl f244)) : Option (Nat × va_E)) := hA245
    replace hO246 : u234[12]? = (some (q 12, .inr (2, [.ref (q 13), .int y247, .int y248])) : Option (Nat × va_E)) := hO246
    replace hA250 : u234[13]? = (some (q 13, .inl (g 0, (220 : Int32).toNatClampNeg, .inl f249)) : Option (Nat × va_E)) := hA250
    obtain ⟨p268, e269⟩ : ∃ z, z = (F_Big_divideBy (220 : Int32) R2 (220 : Int32) y213 y214 f215 lx139 lx140 lx141 lx130 lx131 lx132) := ⟨_, rfl⟩
    have e270 : y237 = p268.1 := congrArg (fun z => z.1) (hE266.trans e269.symm)
    have e271 : y238 = p268.2.1 := congrArg (fun z => z.2.1) (hE266.trans e269.symm)
    have e272 : f239 = p268.2.2.1 := congrArg (fun z => z.2.2.1) (hE266.trans e269.symm)
    have e273 : y242 = p268.2.2.2.1 := congrArg (fun z => z.2.2.2.1) (hE266.trans e269.symm)
    have e274 : y243 = p268.2.2.2.2.1 := congrArg (fun z => z.2.2.2.2.1) (hE266.trans e269.symm)
    have e275 : f244 = p268.2.2.2.2.2.1 := congrArg (fun z => z.2.2.2.2.2.1) (hE266.trans e269.symm)
    have e276 : y247 = p268.2.2.2.2.2.2.1 := congrArg (fun z => z.2.2.2.2.2.2.1) (hE266.trans e269.symm)
    have e277 : y248 = p268.2.2.2.2.2.2.2.1 := congrArg (fun z => z.2.2.2.2.2.2.2.1) (hE266.trans e269.symm)
    have e278 : f249 = p268.2.2.2.2.2.2.2.2 := congrArg (fun z => z.2.2.2.2.2.2.2.2) (hE266.trans e269.symm)
    replace b251 : q_F (0 ≤ y248.toInt) := b251
    replace b252 : q_F (y248.toInt ≤ 0) := b252
    replace b253 : q_F (y237.toInt ≤ 220) := b253
    replace b254 : q_F (y238.toInt ≤ y214.toInt) := b254
    replace b256 : q_F (y242.toInt ≤ R2.toInt) := b256
    replace b257 : q_F (y243.toInt ≤ lx140.toInt) := b257
    replace b260 : q_F (y247.toInt ≤ 220) := b260
    replace b261 : q_F (y248.toInt ≤ y237.toInt) := b261
    replace b262 : q_F (y248.toInt ≤ y238.toInt) := b262
    replace b263 : q_F (y248.toInt ≤ y242.toInt) := b263
    replace b264 : q_F (y248.toInt ≤ y243.toInt) := b264
    replace b265 : q_F (y248.toInt ≤ y247.toInt) := b265
    replace hO166 := (hu267 _ (by first | exact (q_nc (Nat.ne_of_beq_eq_false rfl) (q_nc (Nat.ne_of_beq_eq_false rfl) (q_nc (Ne.symm ne_k2_10) (q_nc (q_ns1 ne_k2_9) (q_nc (Nat.ne_of_beq_eq_false rfl) (q_nc (Nat.ne_of_beq_eq_false rfl) List.not_mem_nil)))))) | (have z0 := zk2; simp only [List.mem_cons, List.not_mem_nil, or_false, not_or]; omega))).trans hO166
    replace hO167 := (hu267 _ (by first | exact (q_nc (Nat.ne_of_beq_eq_false rfl) (q_nc (Nat.ne_of_beq_eq_false rfl) (q_nc (Ne.symm ne_k2_11) (q_nc (q_ns1 ne_k2_10) (q_nc (Nat.ne_of_beq_eq_false rfl) (q_nc (Nat.ne_of_beq_eq_false rfl) List.not_mem_nil)))))) | (have z0 := zk2; simp only [List.mem_cons, List.not_mem_nil, or_false, not_or]; omega))).trans hO167
    replace hO170 := (hu267 _ (by first | exact (q_nc (Nat.ne_of_beq_eq_false rfl) (q_nc (Nat.ne_of_beq_eq_false rfl) (q_nc (Ne.symm ne_k2_14) (q_nc (q_ns1 ne_k2_13) (q_nc (Nat.ne_of_beq_eq_false rfl) (q_nc (Nat.ne_of_beq_eq_false rfl) List.not_mem_nil)))))) | (have z0 := zk2; simp only [List.mem_cons, List.not_mem_nil, or_false, not_or]; omega))).trans hO170
    replace hO171 := (hu267 _ (by first | exact (q_nc (Nat.ne_of_beq_eq_false rfl) (q_nc (Nat.ne_of_beq_eq_false rfl) (q_nc (Ne.symm ne_k2_15) (q_nc (q_ns1 ne_k2_14) (q_nc (Nat.ne_of_beq_eq_false rfl) (q_nc (Nat.ne_of_beq_eq_false rfl) List.not_mem_nil)))))) | (have z0 := zk2; simp only [List.mem_cons, List.not_mem_nil, or_false, not_or]; omega))).trans hO171
    replace hO209 := (hu267 _ (by first | exact (q_nc (Nat.ne_of_beq_eq_false rfl) (q_nc (Nat.ne_of_beq_eq_false rfl) (q_nc (Ne.symm ne_k2_9) (q_nc (q_nz1 zk2 rfl) (q_nc (Nat.ne_of_beq_eq_false rfl) (q_nc (Nat.ne_of_beq_eq_false rfl) List.not_mem_nil)))))) | (have z0 := zk2; simp only [List.mem_cons, List.not_mem_nil, or_false, not_or]; omega))).trans hO209
    replace hF := q_uc hF hu267 (by first | exact (q_sk (q_mi 6 rfl) (q_sk (q_mi 7 rfl) (q_sk (q_mi 8 rfl) (q_sk (q_mi 9 rfl) (q_sk (q_mi 2 rfl) (q_sk (q_mi 3 rfl) q_s0)))))) | simp)
    have hR279 := (show F_Mil_powerBelow_a_c55 (F_Mil_powerBelow_a_L27 R2 t0_0 t0_1 t1_0 t2_0 t2_1 t3_0 t4_0 t4_1 t5_0 t6_0 t6_1 t7_0 t8_0 t8_1 t9_0 p56 p101 fm180) R2 t0_0 t0_1 t1_0 t2_0 t2_1 t3_0 t4_0 t4_1 t5_0 t6_0 t6_1 t7_0 t8_0 t8_1 t9_0 p56 p101 lx129 lx130 lx131 lx132 lx133 lx134 lx135 lx136 lx137 lx138 lx139 lx140 lx141 p223 p268 = (F_Mil_powerBelow_a R2 t0_0 t0_1 t1_0 t2_0 t2_1 t3_0 t4_0 t4_1 t5_0 t6_0 t6_1 t7_0 t8_0 t8_1 t9_0) from Eq.trans (by rw [e269, e227, e226, e225, F_Mil_powerBelow_a_c43.eq_1]) hR228)
    have hS280 := (show True ∧ S_Mil_powerBelow_a_c55 (S_Mil_powerBelow_a_L27 R2 t0_0 t0_1 t1_0 t2_0 t2_1 t3_0 t4_0 t4_1 t5_0 t6_0 t6_1 t7_0 t8_0 t8_1 t9_0 p56 p101 fm180) R2 t0_0 t0_1 t1_0 t2_0 t2_1 t3_0 t4_0 t4_1 t5_0 t6_0 t6_1 t7_0 t8_0 t8_1 t9_0 p56 p101 lx129 lx130 lx131 lx132 lx133 lx134 lx135 lx136 lx137 lx138 lx139 lx140 lx141 p223 p268 from (by rw [e269, e227, e226, e225]; have h := hS229; rw [S_Mil_powerBelow_a_c43.eq_1] at h; replace h := q_s2 h; with_reducible exact h))
    refine lv_aload_n hx hb d_8_7_58 rfl (lv_at hl 2 rfl) ?_
    refine lv_iload_n hx hb d_8_7_59 rfl (lv_at hl 0 rfl) ?_
    refine q_goi V (q_runV (As := [.int lx129]) (rest := []) (d := 2) (mc := 0) (ms := 0) (ci := 2) C0 V rfl LV_Mil_89 (X_Big_bit l D g q u234 k2 R2 hB2 zk2 lx129 hI y242 y243 hO241 f244 hA245  _) rfl rfl hO241 rfl hl.1 rfl (Nat.le_of_ble_eq_true rfl) ⟨by decide, by decide⟩ ⟨Nat.le_of_ble_eq_true rfl, Nat.le_of_ble_eq_true rfl⟩ d_8_7_60) (fun a286 u284 H locs hp285 V => ?_)
    obtain ⟨rfl, b287, b288, hE289⟩ := hp285
    have e290 : a286 = (F_Big_bit R2 lx129 y242 y243 f244) := hE289
    clear b287
    clear b288
    refine lv_iconst (v := 1) hx hb d_8_7_63 (by decide) ?_
    refine lv_icmp_ne (tgt := 97) hx hb d_8_7_64 (by decide) (fun c291 => ?_) (fun c291 => ?_)
    ·
      refine lv_aload_n hx hb d_8_7_97 rfl (lv_at hl 1 rfl) ?_
      refine q_get (ci := 4) (j := 2) (v := .ref (q 14)) C0 V i_Mil rfl rfl hO209 (by decide) w_117 rfl d_8_7_98 ?_
      refine lv_aload_n hx hb d_8_7_101 rfl (lv_at hl 1 rfl) ?_
      refine q_get (ci := 4) (j := 4) (v := .ref (q 18)) C0 V i_Mil rfl rfl hO209 (by decide) w_123 rfl d_8_7_102 ?_
      refine q_gov V (q_runV (As := [.ref (q 18)]) (rest := []) (d := 2) (mc := 0) (ms := 0) (ci := 2) C0 V rfl LV_Mil_51 (X_Big_copy l D g q u234 14 220 (n_b14 g q) (by decide) 18 220 (n_b18 g q) (by decide)  (by decide) hI lx133 lx134 hO170 lx135 hO171 y237 y238 hO236 f239 hA240  _) rfl rfl hO170 rfl hl.1 rfl (Nat.le_of_ble_eq_true rfl) ⟨by decide, by decide⟩ ⟨Nat.le_of_ble_eq_true rfl, Nat.le_of_ble_eq_true rfl⟩ d_8_7_105) (fun u293 H locs hp294 V => ?_)
      obtain ⟨hI, hZ9⟩ := hp294
      obtain ⟨hu306, hZ9⟩ := hZ9
      obtain ⟨y296, hZ9⟩ := hZ9
      obtain ⟨y297, hZ9⟩ := hZ9
      obtain ⟨f298, hZ9⟩ := hZ9
      obtain ⟨hO295, hZ9⟩ := hZ9
      obtain ⟨hA299, hZ9⟩ := hZ9
      obtain ⟨b300, hZ9⟩ := hZ9
      replace hZ9 := hZ9.2
      obtain ⟨b302, hZ9⟩ := hZ9
      obtain ⟨b303, hZ9⟩ := hZ9
      obtain ⟨b304, hE305⟩ := hZ9
      replace hO295 : u293[14]? = (some (q 14, .inr (2, [.ref (q 15), .int y296, .int y297])) : Option (Nat × va_E)) := hO295
      replace hA299 : u293[15]? = (some (q 15, .inl (g 0, (220 : Int32).toNatClampNeg, .inl f298)) : Option (Nat × va_E)) := hA299
      obtain ⟨p307, e308⟩ : ∃ z, z = (F_Big_copy (220 : Int32) (220 : Int32) lx133 lx134 lx135 y237 y238 f239) := ⟨_, rfl⟩
      have e309 : y296 = p307.1 := congrArg (fun z => z.1) (hE305.trans e308.symm)
      have e310 : y297 = p307.2.1 := congrArg (fun z => z.2.1) (hE305.trans e308.symm)
      have e311 : f298 = p307.2.2 := congrArg (fun z => z.2.2) (hE305.trans e308.symm)
      replace b300 : q_F (0 ≤ y296.toInt) := b300
      replace b302 : q_F (y296.toInt ≤ 220) := b302
      replace b303 : q_F (y238.toInt ≤ y297.toInt) := b303
      replace b304 : q_F (y297.toInt ≤ y238.toInt) := b304
      replace hO166 := (hu306 _ (by decide)).trans hO166
      replace hO167 := (hu306 _ (by decide)).trans hO167
      replace hO246 := (hu306 _ (by decide)).trans hO246
      replace hA250 := (hu306 _ (by decide)).trans hA250
      replace hO236 := (hu306 _ (by decide)).trans hO236
      replace hA240 := (hu306 _ (by decide)).trans hA240
      replace hO241 := (hu306 _ (by first | exact (q_nc ne_k2_14 (q_nc ne_k2_15 List.not_mem_nil)) | (have z0 := zk2; simp only [List.mem_cons, List.not_mem_nil, or_false, not_or]; omega))).trans hO241
      replace hA245 := (hu306 _ (by first | exact (q_nc (q_nt1 ne_k2_13) (q_nc (q_nt1 ne_k2_14) List.not_mem_nil)) | (have z0 := zk2; simp only [List.mem_cons, List.not_mem_nil, or_false, not_or]; omega))).trans hA245
      replace hF := q_uc hF hu306 (by first | exact (q_sk (q_mi 4 rfl) (q_sk (q_mi 5 rfl) q_s0)) | simp)
      have hR312 := (show F_Mil_powerBelow_a_c105 (F_Mil_powerBelow_a_L27 R2 t0_0 t0_1 t1_0 t2_0 t2_1 t3_0 t4_0 t4_1 t5_0 t6_0 t6_1 t7_0 t8_0 t8_1 t9_0 p56 p101 fm180) R2 t0_0 t0_1 t1_0 t2_0 t2_1 t3_0 t4_0 t4_1 t5_0 t6_0 t6_1 t7_0 t8_0 t8_1 t9_0 p56 p101 lx129 lx130 lx131 lx132 lx133 lx134 lx135 lx136 lx137 lx138 lx139 lx140 lx141 p223 p268 y247 y248 f249 y237 y238 f239 y242 y243 f244 p307 = (F_Mil_powerBelow_a R2 t0_0 t0_1 t1_0 t2_0 t2_1 t3_0 t4_0 t4_1 t5_0 t6_0 t6_1 t7_0 t8_0 t8_1 t9_0) from Eq.trans (by have c291x := c291; rw [e290, e275, e274, e273] at c291x; rw [e308, e278, e277, e276, e275, e274, e273, e272, e271, e270, F_Mil_powerBelow_a_c55.eq_1, if_neg c291x]) hR279)
      have hS313 := (show True ∧ S_Mil_powerBelow_a_c105 (S_Mil_powerBelow_a_L27 R2 t0_0 t0_1 t1_0 t2_0 t2_1 t3_0 t4_0 t4_1 t5_0 t6_0 t6_1 t7_0 t8_0 t8_1 t9_0 p56 p101 fm180) R2 t0_0 t0_1 t1_0 t2_0 t2_1 t3_0 t4_0 t4_1 t5_0 t6_0 t6_1 t7_0 t8_0 t8_1 t9_0 p56 p101 lx129 lx130 lx131 lx132 lx133 lx134 lx135 lx136 lx137 lx138 lx139 lx140 lx141 p223 p268 y247 y248 f249 y237 y238 f239 y242 y243 f244 p307 from (by rw [e308, e278, e277, e276, e275, e274, e273, e272, e271, e270]; have h := hS280; rw [S_Mil_powerBelow_a_c55.eq_1] at h; have c291x := c291; rw [e290, e275, e274, e273] at c291x; rw [if_neg c291x] at h; with_reducible exact h))
      obtain ⟨a317, e318⟩ := q_nm (lx129 + (-1) : Int32)
      have b319 : q_F (a317.toInt = lx129.toInt + (-1)) := (by rw [← e318]; exact q_addI (y := (-1)) rfl (by decide) (by have t1 : 0 ≤ lx129.toInt + 1 := i142; have t2 : lx129.toInt + lx134.toInt ≤ a125.toInt + y71.toInt := i159; have t3 : lx129.toInt + y71.toInt ≤ lx134.toInt + a125.toInt := i160; have _ := q_lo32 (x := a125); have _ := q_hi32 (x := a125); omega) (by have t1 : 0 ≤ lx129.toInt + 1 := i142; have t2 : lx129.toInt + lx134.toInt ≤ a125.toInt + y71.toInt := i159; have t3 : lx129.toInt + y71.toInt ≤ lx134.toInt + a125.toInt := i160; have _ := q_lo32 (x := a125); have _ := q_hi32 (x := a125); omega))
      refine lv_iinc (v := a317) (lv' := [(3, .int a317), (0, .ref (q 9)), (1, .ref (q k2)), (2, .ref (q k2))]) hx hb d_8_7_108 hl (k := 0) rfl (e318) (by decide) rfl (fun ls hl => ?_)
      refine lv_goto (tgt := 27) hx hb d_8_7_111 (by decide) ?_
      exact ih164 ((a317 : Int32), (y247 : Int32), (y248 : Int32), (f249 : (Nat → Int32)), (y296 : Int32), (y297 : Int32), (f298 : (Nat → Int32)), (y237 : Int32), (y238 : Int32), (f239 : (Nat → Int32)), (y242 : Int32), (y243 : Int32), (f244 : (Nat → Int32))) _ _ _ _ (show (a317.toInt - ((-1))).toNat < (lx129.toInt - ((-1))).toNat from by have t1 : a317.toInt = lx129.toInt + (-1) := b319; have t2 : 0 ≤ lx129.toInt + 1 := i142; have t3 : 0 ≤ lx129.toInt := b208; omega) ⟨(show q_F (0 ≤ a317.toInt + 1) from (show 0 ≤ a317.toInt + 1 from by have t1 : 0 ≤ lx129.toInt := b208; have t2 : a317.toInt = lx129.toInt + (-1) := b319; omega)), (show q_F (0 ≤ y247.toInt) from (show 0 ≤ y247.toInt from by have t1 : 0 ≤ y248.toInt := b251; have t2 : y248.toInt ≤ y247.toInt := b265; omega)), (show q_F (y247.toInt ≤ 220) from (show y247.toInt ≤ 220 from by have t1 : y247.toInt ≤ 220 := b260; omega)), (show q_F (0 ≤ y296.toInt) from (show 0 ≤ y296.toInt from by have t1 : 0 ≤ y296.toInt := b300; omega)), (show q_F (y296.toInt ≤ 220) from (show y296.toInt ≤ 220 from by have t1 : y296.toInt ≤ 220 := b302; omega)), (show q_F (0 ≤ y297.toInt) from (show 0 ≤ y297.toInt from by have t1 : 0 ≤ y248.toInt := b251; have t2 : y248.toInt ≤ y238.toInt := b262; have t3 : y238.toInt ≤ y297.toInt := b303; omega)), (show q_F (y297.toInt ≤ 1) from (show y297.toInt ≤ 1 from by have t1 : y214.toInt ≤ 1 := b218; have t2 : y238.toInt ≤ y214.toInt := b254; have t3 : y297.toInt ≤ y238.toInt := b304; omega)), (show q_F (0 ≤ y237.toInt) from (show 0 ≤ y237.toInt from by have t1 : 0 ≤ y248.toInt := b251; have t2 : y248.toInt ≤ y237.toInt := b261; omega)), (show q_F (y237.toInt ≤ 220) from (show y237.toInt ≤ 220 from by have t1 : y237.toInt ≤ 220 := b253; omega)), (show q_F (0 ≤ y238.toInt) from (show 0 ≤ y238.toInt from by have t1 : 0 ≤ y248.toInt := b251; have t2 : y248.toInt ≤ y238.toInt := b262; omega)), (show q_F (y238.toInt ≤ 1) from (show y238.toInt ≤ 1 from by have t1 : y214.toInt ≤ 1 := b218; have t2 : y238.toInt ≤ y214.toInt := b254; omega)), (show q_F (0 ≤ y242.toInt) from (show 0 ≤ y242.toInt from by have t1 : 0 ≤ y248.toInt := b251; have t2 : y248.toInt ≤ y242.toInt := b263; omega)), (show q_F (y242.toInt ≤ 220) from (show y242.toInt ≤ 220 from by have t1 : 0 ≤ R2.toInt ∧ R2.toInt ≤ 220 := hfk20; have t2 : y242.toInt ≤ R2.toInt := b256; omega)), (show q_F (0 ≤ y243.toInt) from (show 0 ≤ y243.toInt from by have t1 : 0 ≤ y248.toInt := b251; have t2 : y248.toInt ≤ y243.toInt := b264; omega)), (show q_F (y81.toInt ≤ y248.toInt) from (show y81.toInt ≤ y248.toInt from by have t1 : y81.toInt ≤ 0 := b85; have t2 : 0 ≤ y248.toInt := b251; omega)), (show q_F (y248.toInt ≤ y81.toInt) from (show y248.toInt ≤ y81.toInt from by have t1 : 0 ≤ y81.toInt := b84; have t2 : y248.toInt ≤ 0 := b252; omega)), (show q_F (y243.toInt ≤ y76.toInt) from (show y243.toInt ≤ y76.toInt from by have t1 : lx140.toInt ≤ y76.toInt := i158; have t2 : y243.toInt ≤ lx140.toInt := b257; omega)), (show q_F (a317.toInt + y297.toInt ≤ a125.toInt + y71.toInt) from (show a317.toInt + y297.toInt ≤ a125.toInt + y71.toInt from by have t1 : 0 ≤ lx134.toInt := i147; have t2 : lx129.toInt + lx134.toInt ≤ a125.toInt + y71.toInt := i159; have t3 : y214.toInt ≤ 1 := b218; have t4 : y238.toInt ≤ y214.toInt := b254; have t5 : y297.toInt ≤ y238.toInt := b304; have t6 : a317.toInt = lx129.toInt + (-1) := b319; omega)), (show q_F (a317.toInt + y71.toInt ≤ y297.toInt + a125.toInt) from (show a317.toInt + y71.toInt ≤ y297.toInt + a125.toInt from by have t1 : lx134.toInt ≤ 1 := i148; have t2 : lx129.toInt + y71.toInt ≤ lx134.toInt + a125.toInt := i160; have t3 : 0 ≤ y248.toInt := b251; have t4 : y248.toInt ≤ y238.toInt := b262; have t5 : y238.toInt ≤ y297.toInt := b303; have t6 : a317.toInt = lx129.toInt + (-1) := b319; omega)), (show q_F (a317.toInt + y238.toInt ≤ a125.toInt + t6_1.toInt) from (show a317.toInt + y238.toInt ≤ a125.toInt + t6_1.toInt from by have t1 : 0 ≤ t6_1.toInt ∧ t6_1.toInt ≤ 1 := btt6_1; have t2 : lx129.toInt + lx134.toInt ≤ a125.toInt + y71.toInt := i159; have t3 : lx129.toInt + y71.toInt ≤ lx134.toInt + a125.toInt := i160; have t4 : y214.toInt ≤ 1 := b218; have t5 : y238.toInt ≤ y214.toInt := b254; have t6 : a317.toInt = lx129.toInt + (-1) := b319; omega)), (show q_F (a317.toInt + t6_1.toInt ≤ y238.toInt + a125.toInt) from (show a317.toInt + t6_1.toInt ≤ y238.toInt + a125.toInt from by have t1 : 0 ≤ t6_1.toInt ∧ t6_1.toInt ≤ 1 := btt6_1; have t2 : lx129.toInt + lx134.toInt ≤ a125.toInt + y71.toInt := i159; have t3 : lx129.toInt + y71.toInt ≤ lx134.toInt + a125.toInt := i160; have t4 : 0 ≤ y248.toInt := b251; have t5 : y248.toInt ≤ y238.toInt := b262; have t6 : a317.toInt = lx129.toInt + (-1) := b319; omega)), (show q_F (a317.toInt + y76.toInt ≤ y243.toInt + a125.toInt) from (show a317.toInt + y76.toInt ≤ y243.toInt + a125.toInt from by have t1 : 0 ≤ t8_1.toInt ∧ t8_1.toInt ≤ 1 := btt8_1; have t2 : y76.toInt ≤ t8_1.toInt := b90; have t3 : lx129.toInt + lx134.toInt ≤ a125.toInt + y71.toInt := i159; have t4 : lx129.toInt + y71.toInt ≤ lx134.toInt + a125.toInt := i160; have t5 : 0 ≤ y248.toInt := b251; have t6 : y248.toInt ≤ y243.toInt := b264; have t7 : a317.toInt = lx129.toInt + (-1) := b319; omega)), V, q_lw hl (q_lw1 0 rfl (q_lw1 1 rfl (q_lw1 2 rfl (q_lw1 3 rfl q_lw0)))), hI, hF, hO166, hO167, hO246, hA250, hO295, hA299, hO236, hA240, hO241, hA245, ⟨fm180, Nat.lt_of_lt_of_le (show (a317.toInt - ((-1))).toNat < (lx129.toInt - ((-1))).toNat from by have t1 : a317.toInt = lx129.toInt + (-1) := b319; have t2 : 0 ≤ lx129.toInt + 1 := i142; have t3 : 0 ≤ lx129.toInt := b208; omega) (Nat.le_of_lt_succ hf179), (show F_Mil_powerBelow_a_L27 R2 t0_0 t0_1 t1_0 t2_0 t2_1 t3_0 t4_0 t4_1 t5_0 t6_0 t6_1 t7_0 t8_0 t8_1 t9_0 p56 p101 fm180 a317 y247 y248 f249 y296 y297 f298 y237 y238 f239 y242 y243 f244 = (F_Mil_powerBelow_a R2 t0_0 t0_1 t1_0 t2_0 t2_1 t3_0 t4_0 t4_1 t5_0 t6_0 t6_1 t7_0 t8_0 t8_1 t9_0) from Eq.trans (by rw [← e318, e311, e310, e309, F_Mil_powerBelow_a_c105.eq_1]) hR312), (show True ∧ S_Mil_powerBelow_a_L27 R2 t0_0 t0_1 t1_0 t2_0 t2_1 t3_0 t4_0 t4_1 t5_0 t6_0 t6_1 t7_0 t8_0 t8_1 t9_0 p56 p101 fm180 a317 y247 y248 f249 y296 y297 f298 y237 y238 f239 y242 y243 f244 from (by rw [← e318, e311, e310, e309]; have h := hS313; rw [S_Mil_powerBelow_a_c105.eq_1] at h; with_reducible exact h))⟩⟩
    ·
      refine lv_aload_n hx hb d_8_7_67 rfl (lv_at hl 1 rfl) ?_
      refine q_get (ci := 4) (j := 2) (v := .ref (q 14)) C0 V i_Mil rfl rfl hO209 (by decide) w_117 rfl d_8_7_68 ?_
      refine lv_aload_n hx hb d_8_7_71 rfl (lv_at hl 1 rfl) ?_
      refine q_get (ci := 4) (j := 4) (v := .ref (q 18)) C0 V i_Mil rfl rfl hO209 (by decide) w_123 rfl d_8_7_72 ?_
      refine lv_aload_n hx hb d_8_7_75 rfl (lv_at hl 1 rfl) ?_
      refine q_get (ci := 4) (j := 0) (v := .ref (q 10)) C0 V i_Mil rfl rfl hO209 (by decide) w_108 rfl d_8_7_76 ?_
      refine q_gov V (q_runV (As := [.ref (q 18), .ref (q 10)]) (rest := []) (d := 3) (mc := 0) (ms := 0) (ci := 2) C0 V rfl LV_Mil_47 (X_Big_product l D g q u234 14 220 (n_b14 g q) (by decide) 18 220 (n_b18 g q) (by decide) 10 220 (n_b10 g q) (by decide)  (by decide) (by decide) hI lx133 lx134 hO170 lx135 hO171 y237 y238 hO236 f239 hA240 t0_0 t0_1 hO166 t1_0 hO167  _) rfl rfl hO170 rfl hl.1 rfl (Nat.le_of_ble_eq_true rfl) ⟨by decide, by decide⟩ ⟨Nat.le_of_ble_eq_true rfl, Nat.le_of_ble_eq_true rfl⟩ d_8_7_79) (fun u321 H locs hp322 V => ?_)
      obtain ⟨hI, hZ9⟩ := hp322
      obtain ⟨hu333, hZ9⟩ := hZ9
      obtain ⟨y324, hZ9⟩ := hZ9
      obtain ⟨y325, hZ9⟩ := hZ9
      obtain ⟨f326, hZ9⟩ := hZ9
      obtain ⟨hO323, hZ9⟩ := hZ9
      obtain ⟨hA327, hZ9⟩ := hZ9
      replace hZ9 := hZ9.2
      obtain ⟨b329, hZ9⟩ := hZ9
      replace hZ9 := hZ9.2
      obtain ⟨-, hE332⟩ := hZ9
      replace hO323 : u321[14]? = (some (q 14, .inr (2, [.ref (q 15), .int y324, .int y325])) : Option (Nat × va_E)) := hO323
      replace hA327 : u321[15]? = (some (q 15, .inl (g 0, (220 : Int32).toNatClampNeg, .inl f326)) : Option (Nat × va_E)) := hA327
      obtain ⟨p334, e335⟩ : ∃ z, z = (F_Big_product (220 : Int32) (220 : Int32) (220 : Int32) lx133 lx134 lx135 y237 y238 f239 t0_0 t0_1 t1_0) := ⟨_, rfl⟩
      have e336 : y324 = p334.1 := congrArg (fun z => z.1) (hE332.trans e335.symm)
      have e337 : y325 = p334.2.1 := congrArg (fun z => z.2.1) (hE332.trans e335.symm)
      have e338 : f326 = p334.2.2 := congrArg (fun z => z.2.2) (hE332.trans e335.symm)
      replace b329 : q_F (y325.toInt ≤ 1) := b329
      replace hO166 := (hu333 _ (by decide)).trans hO166
      replace hO167 := (hu333 _ (by decide)).trans hO167
      replace hO246 := (hu333 _ (by decide)).trans hO246
      replace hA250 := (hu333 _ (by decide)).trans hA250
      replace hO236 := (hu333 _ (by decide)).trans hO236
      replace hA240 := (hu333 _ (by decide)).trans hA240
      replace hO241 := (hu333 _ (by first | exact (q_nc ne_k2_14 (q_nc ne_k2_15 List.not_mem_nil)) | (have z0 := zk2; simp only [List.mem_cons, List.not_mem_nil, or_false, not_or]; omega))).trans hO241
      replace hA245 := (hu333 _ (by first | exact (q_nc (q_nt1 ne_k2_13) (q_nc (q_nt1 ne_k2_14) List.not_mem_nil)) | (have z0 := zk2; simp only [List.mem_cons, List.not_mem_nil, or_false, not_or]; omega))).trans hA245
      replace hO209 := (hu333 _ (by decide)).trans hO209
      replace hF := q_uc hF hu333 (by first | exact (q_sk (q_mi 4 rfl) (q_sk (q_mi 5 rfl) q_s0)) | simp)
      have hR339 := (show F_Mil_powerBelow_a_c79 (F_Mil_powerBelow_a_L27 R2 t0_0 t0_1 t1_0 t2_0 t2_1 t3_0 t4_0 t4_1 t5_0 t6_0 t6_1 t7_0 t8_0 t8_1 t9_0 p56 p101 fm180) R2 t0_0 t0_1 t1_0 t2_0 t2_1 t3_0 t4_0 t4_1 t5_0 t6_0 t6_1 t7_0 t8_0 t8_1 t9_0 p56 p101 lx129 lx130 lx131 lx132 lx133 lx134 lx135 lx136 lx137 lx138 lx139 lx140 lx141 p223 p268 y247 y248 f249 y237 y238 f239 y242 y243 f244 p334 = (F_Mil_powerBelow_a R2 t0_0 t0_1 t1_0 t2_0 t2_1 t3_0 t4_0 t4_1 t5_0 t6_0 t6_1 t7_0 t8_0 t8_1 t9_0) from Eq.trans (by have c291x := c291; rw [e290, e275, e274, e273] at c291x; rw [e335, e278, e277, e276, e275, e274, e273, e272, e271, e270, F_Mil_powerBelow_a_c55.eq_1, if_pos c291x]) hR279)
      have hS340 := (show True ∧ S_Mil_powerBelow_a_c79 (S_Mil_powerBelow_a_L27 R2 t0_0 t0_1 t1_0 t2_0 t2_1 t3_0 t4_0 t4_1 t5_0 t6_0 t6_1 t7_0 t8_0 t8_1 t9_0 p56 p101 fm180) R2 t0_0 t0_1 t1_0 t2_0 t2_1 t3_0 t4_0 t4_1 t5_0 t6_0 t6_1 t7_0 t8_0 t8_1 t9_0 p56 p101 lx129 lx130 lx131 lx132 lx133 lx134 lx135 lx136 lx137 lx138 lx139 lx140 lx141 p223 p268 y247 y248 f249 y237 y238 f239 y242 y243 f244 p334 from (by rw [e335, e278, e277, e276, e275, e274, e273, e272, e271, e270]; have h := hS280; rw [S_Mil_powerBelow_a_c55.eq_1] at h; have c291x := c291; rw [e290, e275, e274, e273] at c291x; rw [if_pos c291x] at h; with_reducible exact h))
      refine lv_aload_n hx hb d_8_7_82 rfl (lv_at hl 1 rfl) ?_
      refine q_get (ci := 4) (j := 2) (v := .ref (q 14)) C0 V i_Mil rfl rfl hO209 (by decide) w_117 rfl d_8_7_83 ?_
      refine lv_aload_n hx hb d_8_7_86 rfl (lv_at hl 3 rfl) ?_
      refine lv_aload_n hx hb d_8_7_87 rfl (lv_at hl 1 rfl) ?_
      refine q_get (ci := 4) (j := 1) (v := .ref (q 12)) C0 V i_Mil rfl rfl hO209 (by decide) w_114 rfl d_8_7_88 ?_
      have ob344 : True ∧ S_Big_divideBy (220 : Int32) R2 (220 : Int32) y324 y325 f326 y242 y243 f244 y247 y248 f249 := (by rw [e338, e337, e336]; have h := hS340; rw [S_Mil_powerBelow_a_c79.eq_1] at h; with_reducible exact h.2.1)
      refine q_gov V (q_runV (As := [.ref (q k2), .ref (q 12)]) (rest := []) (d := 4) (mc := 0) (ms := 0) (ci := 2) C0 V rfl LV_Mil_59 (X_Big_divideBy l D g q u321 14 220 (n_b14 g q) (by decide) k2 R2 hB2 zk2 12 220 (n_b12 g q) (by decide)  (by have z := ne_k2_14; omega) (by decide) (by have z := ne_k2_12; omega) hI y324 y325 hO323 f326 hA327 y242 y243 hO241 f244 hA245 y247 y248 hO246 f249 hA250 ob344 _) rfl rfl hO323 rfl hl.1 rfl (Nat.le_of_ble_eq_true rfl) ⟨by decide, by decide⟩ ⟨Nat.le_of_ble_eq_true rfl, Nat.le_of_ble_eq_true rfl⟩ d_8_7_91) (fun u345 H locs hp346 V => ?_)
      obtain ⟨hI, hZ9⟩ := hp346
      obtain ⟨hu378, hZ9⟩ := hZ9
      obtain ⟨y348, hZ9⟩ := hZ9
      obtain ⟨y349, hZ9⟩ := hZ9
      obtain ⟨f350, hZ9⟩ := hZ9
      obtain ⟨y353, hZ9⟩ := hZ9
      obtain ⟨y354, hZ9⟩ := hZ9
      obtain ⟨f355, hZ9⟩ := hZ9
      obtain ⟨y358, hZ9⟩ := hZ9
      obtain ⟨y359, hZ9⟩ := hZ9
      obtain ⟨f360, hZ9⟩ := hZ9
      obtain ⟨hO347, hZ9⟩ := hZ9
      obtain ⟨hA351, hZ9⟩ := hZ9
      obtain ⟨hO352, hZ9⟩ := hZ9
      obtain ⟨hA356, hZ9⟩ := hZ9
      obtain ⟨hO357, hZ9⟩ := hZ9
      obtain ⟨hA361, hZ9⟩ := hZ9
      obtain ⟨b362, hZ9⟩ := hZ9
      obtain ⟨b363, hZ9⟩ := hZ9
      obtain ⟨b364, hZ9⟩ := hZ9
      obtain ⟨b365, hZ9⟩ := hZ9
      replace hZ9 := hZ9.2
      obtain ⟨b367, hZ9⟩ := hZ9
      obtain ⟨b368, hZ9⟩ := hZ9
      replace hZ9 := hZ9.2.2
      obtain ⟨b371, hZ9⟩ := hZ9
      obtain ⟨b372, hZ9⟩ := hZ9
      obtain ⟨b373, hZ9⟩ := hZ9
      obtain ⟨b374, hZ9⟩ := hZ9
      obtain ⟨b375, hZ9⟩ := hZ9
      obtain ⟨b376, hE377⟩ := hZ9
      replace hO347 : u345[14]? = (some (q 14, .inr (2, [.ref (q 15), .int y348, .int y349])) : Option (Nat × va_E)) := hO347
      replace hA351 : u345[15]? = (some (q 15, .inl (g 0, (220 : Int32).toNatClampNeg, .inl f350)) : Option (Nat × va_E)) := hA351
      replace hO352 : u345[k2]? = (some (q k2, .inr (2, [.ref (q (k2 + 1)), .int y353, .int y354])) : Option (Nat × va_E)) := hO352
      replace hA356 : u345[k2 + 1]? = (some (q (k2 + 1), .inl (g 0, R2.toNatClampNeg, .inl f355)) : Option (Nat × va_E)) := hA356
      replace hO357 : u345[12]? = (some (q 12, .inr (2, [.ref (q 13), .int y358, .int y359])) : Option (Nat × va_E)) := hO357
      replace hA361 : u345[13]? = (some (q 13, .inl (g 0, (220 : Int32).toNatClampNeg, .inl f360)) : Option (Nat × va_E)) := hA361
      obtain ⟨p379, e380⟩ : ∃ z, z = (F_Big_divideBy (220 : Int32) R2 (220 : Int32) y324 y325 f326 y242 y243 f244 y247 y248 f249) := ⟨_, rfl⟩
      have e381 : y348 = p379.1 := congrArg (fun z => z.1) (hE377.trans e380.symm)
      have e382 : y349 = p379.2.1 := congrArg (fun z => z.2.1) (hE377.trans e380.symm)
      have e383 : f350 = p379.2.2.1 := congrArg (fun z => z.2.2.1) (hE377.trans e380.symm)
      have e384 : y353 = p379.2.2.2.1 := congrArg (fun z => z.2.2.2.1) (hE377.trans e380.symm)
      have e385 : y354 = p379.2.2.2.2.1 := congrArg (fun z => z.2.2.2.2.1) (hE377.trans e380.symm)
      have e386 : f355 = p379.2.2.2.2.2.1 := congrArg (fun z => z.2.2.2.2.2.1) (hE377.trans e380.symm)
      have e387 : y358 = p379.2.2.2.2.2.2.1 := congrArg (fun z => z.2.2.2.2.2.2.1) (hE377.trans e380.symm)
      have e388 : y359 = p379.2.2.2.2.2.2.2.1 := congrArg (fun z => z.2.2.2.2.2.2.2.1) (hE377.trans e380.symm)
      have e389 : f360 = p379.2.2.2.2.2.2.2.2 := congrArg (fun z => z.2.2.2.2.2.2.2.2) (hE377.trans e380.symm)
      replace b362 : q_F (0 ≤ y359.toInt) := b362
      replace b363 : q_F (y359.toInt ≤ 0) := b363
      replace b364 : q_F (y348.toInt ≤ 220) := b364
      replace b365 : q_F (y349.toInt ≤ y325.toInt) := b365
      replace b367 : q_F (y353.toInt ≤ R2.toInt) := b367
      replace b368 : q_F (y354.toInt ≤ y243.toInt) := b368
      replace b371 : q_F (y358.toInt ≤ 220) := b371
      replace b372 : q_F (y359.toInt ≤ y348.toInt) := b372
      replace b373 : q_F (y359.toInt ≤ y349.toInt) := b373
      replace b374 : q_F (y359.toInt ≤ y353.toInt) := b374
      replace b375 : q_F (y359.toInt ≤ y354.toInt) := b375
      replace b376 : q_F (y359.toInt ≤ y358.toInt) := b376
      replace hO166 := (hu378 _ (by first | exact (q_nc (Nat.ne_of_beq_eq_false rfl) (q_nc (Nat.ne_of_beq_eq_false rfl) (q_nc (Ne.symm ne_k2_10) (q_nc (q_ns1 ne_k2_9) (q_nc (Nat.ne_of_beq_eq_false rfl) (q_nc (Nat.ne_of_beq_eq_false rfl) List.not_mem_nil)))))) | (have z0 := zk2; simp only [List.mem_cons, List.not_mem_nil, or_false, not_or]; omega))).trans hO166
      replace hO167 := (hu378 _ (by first | exact (q_nc (Nat.ne_of_beq_eq_false rfl) (q_nc (Nat.ne_of_beq_eq_false rfl) (q_nc (Ne.symm ne_k2_11) (q_nc (q_ns1 ne_k2_10) (q_nc (Nat.ne_of_beq_eq_false rfl) (q_nc (Nat.ne_of_beq_eq_false rfl) List.not_mem_nil)))))) | (have z0 := zk2; simp only [List.mem_cons, List.not_mem_nil, or_false, not_or]; omega))).trans hO167
      replace hO236 := (hu378 _ (by first | exact (q_nc (Nat.ne_of_beq_eq_false rfl) (q_nc (Nat.ne_of_beq_eq_false rfl) (q_nc (Ne.symm ne_k2_18) (q_nc (q_ns1 ne_k2_17) (q_nc (Nat.ne_of_beq_eq_false rfl) (q_nc (Nat.ne_of_beq_eq_false rfl) List.not_mem_nil)))))) | (have z0 := zk2; simp only [List.mem_cons, List.not_mem_nil, or_false, not_or]; omega))).trans hO236
      replace hA240 := (hu378 _ (by first | exact (q_nc (Nat.ne_of_beq_eq_false rfl) (q_nc (Nat.ne_of_beq_eq_false rfl) (q_nc (Ne.symm ne_k2_19) (q_nc (q_ns1 ne_k2_18) (q_nc (Nat.ne_of_beq_eq_false rfl) (q_nc (Nat.ne_of_beq_eq_false rfl) List.not_mem_nil)))))) | (have z0 := zk2; simp only [List.mem_cons, List.not_mem_nil, or_false, not_or]; omega))).trans hA240
      replace hF := q_uc hF hu378 (by first | exact (q_sk (q_mi 4 rfl) (q_sk (q_mi 5 rfl) (q_sk (q_mi 8 rfl) (q_sk (q_mi 9 rfl) (q_sk (q_mi 2 rfl) (q_sk (q_mi 3 rfl) q_s0)))))) | simp)
      have hR390 := (show F_Mil_powerBelow_a_c91 (F_Mil_powerBelow_a_L27 R2 t0_0 t0_1 t1_0 t2_0 t2_1 t3_0 t4_0 t4_1 t5_0 t6_0 t6_1 t7_0 t8_0 t8_1 t9_0 p56 p101 fm180) R2 t0_0 t0_1 t1_0 t2_0 t2_1 t3_0 t4_0 t4_1 t5_0 t6_0 t6_1 t7_0 t8_0 t8_1 t9_0 p56 p101 lx129 lx130 lx131 lx132 lx133 lx134 lx135 lx136 lx137 lx138 lx139 lx140 lx141 p223 p268 y247 y248 f249 y237 y238 f239 y242 y243 f244 p334 p379 = (F_Mil_powerBelow_a R2 t0_0 t0_1 t1_0 t2_0 t2_1 t3_0 t4_0 t4_1 t5_0 t6_0 t6_1 t7_0 t8_0 t8_1 t9_0) from Eq.trans (by rw [e380, e338, e337, e336, F_Mil_powerBelow_a_c79.eq_1]) hR339)
      have hS391 := (show True ∧ S_Mil_powerBelow_a_c91 (S_Mil_powerBelow_a_L27 R2 t0_0 t0_1 t1_0 t2_0 t2_1 t3_0 t4_0 t4_1 t5_0 t6_0 t6_1 t7_0 t8_0 t8_1 t9_0 p56 p101 fm180) R2 t0_0 t0_1 t1_0 t2_0 t2_1 t3_0 t4_0 t4_1 t5_0 t6_0 t6_1 t7_0 t8_0 t8_1 t9_0 p56 p101 lx129 lx130 lx131 lx132 lx133 lx134 lx135 lx136 lx137 lx138 lx139 lx140 lx141 p223 p268 y247 y248 f249 y237 y238 f239 y242 y243 f244 p334 p379 from (by rw [e380, e338, e337, e336]; have h := hS340; rw [S_Mil_powerBelow_a_c79.eq_1] at h; replace h := q_s2 h; with_reducible exact h))
      refine lv_goto (tgt := 108) hx hb d_8_7_94 (by decide) ?_
      obtain ⟨a395, e396⟩ := q_nm (lx129 + (-1) : Int32)
      have b397 : q_F (a395.toInt = lx129.toInt + (-1)) := (by rw [← e396]; exact q_addI (y := (-1)) rfl (by decide) (by have t1 : 0 ≤ lx129.toInt + 1 := i142; have t2 : lx129.toInt + lx134.toInt ≤ a125.toInt + y71.toInt := i159; have t3 : lx129.toInt + y71.toInt ≤ lx134.toInt + a125.toInt := i160; have _ := q_lo32 (x := a125); have _ := q_hi32 (x := a125); omega) (by have t1 : 0 ≤ lx129.toInt + 1 := i142; have t2 : lx129.toInt + lx134.toInt ≤ a125.toInt + y71.toInt := i159; have t3 : lx129.toInt + y71.toInt ≤ lx134.toInt + a125.toInt := i160; have _ := q_lo32 (x := a125); have _ := q_hi32 (x := a125); omega))
      refine lv_iinc (v := a395) (lv' := [(3, .int a395), (0, .ref (q 9)), (1, .ref (q k2)), (2, .ref (q k2))]) hx hb d_8_7_108 hl (k := 0) rfl (e396) (by decide) rfl (fun ls hl => ?_)
      refine lv_goto (tgt := 27) hx hb d_8_7_111 (by decide) ?_
      exact ih164 ((a395 : Int32), (y358 : Int32), (y359 : Int32), (f360 : (Nat → Int32)), (y348 : Int32), (y349 : Int32), (f350 : (Nat → Int32)), (y237 : Int32), (y238 : Int32), (f239 : (Nat → Int32)), (y353 : Int32), (y354 : Int32), (f355 : (Nat → Int32))) _ _ _ _ (show (a395.toInt - ((-1))).toNat < (lx129.toInt - ((-1))).toNat from by have t1 : a395.toInt = lx129.toInt + (-1) := b397; have t2 : 0 ≤ lx129.toInt + 1 := i142; have t3 : 0 ≤ lx129.toInt := b208; omega) ⟨(show q_F (0 ≤ a395.toInt + 1) from (show 0 ≤ a395.toInt + 1 from by have t1 : 0 ≤ lx129.toInt := b208; have t2 : a395.toInt = lx129.toInt + (-1) := b397; omega)), (show q_F (0 ≤ y358.toInt) from (show 0 ≤ y358.toInt from by have t1 : 0 ≤ y359.toInt := b362; have t2 : y359.toInt ≤ y358.toInt := b376; omega)), (show q_F (y358.toInt ≤ 220) from (show y358.toInt ≤ 220 from by have t1 : y358.toInt ≤ 220 := b371; omega)), (show q_F (0 ≤ y348.toInt) from (show 0 ≤ y348.toInt from by have t1 : 0 ≤ y359.toInt := b362; have t2 : y359.toInt ≤ y348.toInt := b372; omega)), (show q_F (y348.toInt ≤ 220) from (show y348.toInt ≤ 220 from by have t1 : y348.toInt ≤ 220 := b364; omega)), (show q_F (0 ≤ y349.toInt) from (show 0 ≤ y349.toInt from by have t1 : 0 ≤ y359.toInt := b362; have t2 : y359.toInt ≤ y349.toInt := b373; omega)), (show q_F (y349.toInt ≤ 1) from (show y349.toInt ≤ 1 from by have t1 : y325.toInt ≤ 1 := b329; have t2 : y349.toInt ≤ y325.toInt := b365; omega)), (show q_F (0 ≤ y237.toInt) from (show 0 ≤ y237.toInt from by have t1 : 0 ≤ y248.toInt := b251; have t2 : y248.toInt ≤ y237.toInt := b261; omega)), (show q_F (y237.toInt ≤ 220) from (show y237.toInt ≤ 220 from by have t1 : y237.toInt ≤ 220 := b253; omega)), (show q_F (0 ≤ y238.toInt) from (show 0 ≤ y238.toInt from by have t1 : 0 ≤ y248.toInt := b251; have t2 : y248.toInt ≤ y238.toInt := b262; omega)), (show q_F (y238.toInt ≤ 1) from (show y238.toInt ≤ 1 from by have t1 : y214.toInt ≤ 1 := b218; have t2 : y238.toInt ≤ y214.toInt := b254; omega)), (show q_F (0 ≤ y353.toInt) from (show 0 ≤ y353.toInt from by have t1 : 0 ≤ y359.toInt := b362; have t2 : y359.toInt ≤ y353.toInt := b374; omega)), (show q_F (y353.toInt ≤ 220) from (show y353.toInt ≤ 220 from by have t1 : 0 ≤ R2.toInt ∧ R2.toInt ≤ 220 := hfk20; have t2 : y353.toInt ≤ R2.toInt := b367; omega)), (show q_F (0 ≤ y354.toInt) from (show 0 ≤ y354.toInt from by have t1 : 0 ≤ y359.toInt := b362; have t2 : y359.toInt ≤ y354.toInt := b375; omega)), (show q_F (y81.toInt ≤ y359.toInt) from (show y81.toInt ≤ y359.toInt from by have t1 : y81.toInt ≤ 0 := b85; have t2 : 0 ≤ y359.toInt := b362; omega)), (show q_F (y359.toInt ≤ y81.toInt) from (show y359.toInt ≤ y81.toInt from by have t1 : 0 ≤ y81.toInt := b84; have t2 : y359.toInt ≤ 0 := b363; omega)), (show q_F (y354.toInt ≤ y76.toInt) from (show y354.toInt ≤ y76.toInt from by have t1 : lx140.toInt ≤ y76.toInt := i158; have t2 : y243.toInt ≤ lx140.toInt := b257; have t3 : y354.toInt ≤ y243.toInt := b368; omega)), (show q_F (a395.toInt + y349.toInt ≤ a125.toInt + y71.toInt) from (show a395.toInt + y349.toInt ≤ a125.toInt + y71.toInt from by have t1 : 0 ≤ lx134.toInt := i147; have t2 : lx129.toInt + lx134.toInt ≤ a125.toInt + y71.toInt := i159; have t3 : y325.toInt ≤ 1 := b329; have t4 : y349.toInt ≤ y325.toInt := b365; have t5 : a395.toInt = lx129.toInt + (-1) := b397; omega)), (show q_F (a395.toInt + y71.toInt ≤ y349.toInt + a125.toInt) from (show a395.toInt + y71.toInt ≤ y349.toInt + a125.toInt from by have t1 : lx134.toInt ≤ 1 := i148; have t2 : lx129.toInt + y71.toInt ≤ lx134.toInt + a125.toInt := i160; have t3 : 0 ≤ y359.toInt := b362; have t4 : y359.toInt ≤ y349.toInt := b373; have t5 : a395.toInt = lx129.toInt + (-1) := b397; omega)), (show q_F (a395.toInt + y238.toInt ≤ a125.toInt + t6_1.toInt) from (show a395.toInt + y238.toInt ≤ a125.toInt + t6_1.toInt from by have t1 : 0 ≤ t6_1.toInt ∧ t6_1.toInt ≤ 1 := btt6_1; have t2 : lx129.toInt + lx134.toInt ≤ a125.toInt + y71.toInt := i159; have t3 : lx129.toInt + y71.toInt ≤ lx134.toInt + a125.toInt := i160; have t4 : y214.toInt ≤ 1 := b218; have t5 : y238.toInt ≤ y214.toInt := b254; have t6 : a395.toInt = lx129.toInt + (-1) := b397; omega)), (show q_F (a395.toInt + t6_1.toInt ≤ y238.toInt + a125.toInt) from (show a395.toInt + t6_1.toInt ≤ y238.toInt + a125.toInt from by have t1 : 0 ≤ t6_1.toInt ∧ t6_1.toInt ≤ 1 := btt6_1; have t2 : lx129.toInt + lx134.toInt ≤ a125.toInt + y71.toInt := i159; have t3 : lx129.toInt + y71.toInt ≤ lx134.toInt + a125.toInt := i160; have t4 : 0 ≤ y248.toInt := b251; have t5 : y248.toInt ≤ y238.toInt := b262; have t6 : a395.toInt = lx129.toInt + (-1) := b397; omega)), (show q_F (a395.toInt + y76.toInt ≤ y354.toInt + a125.toInt) from (show a395.toInt + y76.toInt ≤ y354.toInt + a125.toInt from by have t1 : 0 ≤ t8_1.toInt ∧ t8_1.toInt ≤ 1 := btt8_1; have t2 : y76.toInt ≤ t8_1.toInt := b90; have t3 : lx129.toInt + lx134.toInt ≤ a125.toInt + y71.toInt := i159; have t4 : lx129.toInt + y71.toInt ≤ lx134.toInt + a125.toInt := i160; have t5 : 0 ≤ y359.toInt := b362; have t6 : y359.toInt ≤ y354.toInt := b375; have t7 : a395.toInt = lx129.toInt + (-1) := b397; omega)), V, q_lw hl (q_lw1 0 rfl (q_lw1 1 rfl (q_lw1 2 rfl (q_lw1 3 rfl q_lw0)))), hI, hF, hO166, hO167, hO357, hA361, hO347, hA351, hO236, hA240, hO352, hA356, ⟨fm180, Nat.lt_of_lt_of_le (show (a395.toInt - ((-1))).toNat < (lx129.toInt - ((-1))).toNat from by have t1 : a395.toInt = lx129.toInt + (-1) := b397; have t2 : 0 ≤ lx129.toInt + 1 := i142; have t3 : 0 ≤ lx129.toInt := b208; omega) (Nat.le_of_lt_succ hf179), (show F_Mil_powerBelow_a_L27 R2 t0_0 t0_1 t1_0 t2_0 t2_1 t3_0 t4_0 t4_1 t5_0 t6_0 t6_1 t7_0 t8_0 t8_1 t9_0 p56 p101 fm180 a395 y358 y359 f360 y348 y349 f350 y237 y238 f239 y353 y354 f355 = (F_Mil_powerBelow_a R2 t0_0 t0_1 t1_0 t2_0 t2_1 t3_0 t4_0 t4_1 t5_0 t6_0 t6_1 t7_0 t8_0 t8_1 t9_0) from Eq.trans (by rw [← e396, e389, e388, e387, e386, e385, e384, e383, e382, e381, F_Mil_powerBelow_a_c91.eq_1]) hR390), (show True ∧ S_Mil_powerBelow_a_L27 R2 t0_0 t0_1 t1_0 t2_0 t2_1 t3_0 t4_0 t4_1 t5_0 t6_0 t6_1 t7_0 t8_0 t8_1 t9_0 p56 p101 fm180 a395 y358 y359 f360 y348 y349 f350 y237 y238 f239 y353 y354 f355 from (by rw [← e396, e389, e388, e387, e386, e385, e384, e383, e382, e381]; have h := hS391; rw [S_Mil_powerBelow_a_c91.eq_1] at h; with_reducible exact h))⟩⟩
def F_Mil_power_c82 (K_F_Mil_power_L16 : Int32 → Int32 → Int32 → (Nat → Int32) → Int32 → Int32 → (Nat → Int32) → (Int32 × Int32 × Int32 × (Nat → Int32) × Int32 × Int32 × (Nat → Int32))) (R : Int32) (x3 : Int32) (x4 : Int32) (t0_0 : Int32) (t0_1 : Int32) (t1_0 : (Nat → Int32)) (t2_0 : Int32) (t2_1 : Int32) (t3_0 : (Nat → Int32)) (t4_0 : Int32) (t4_1 : Int32) (t5_0 : (Nat → Int32)) (p40 : (Int32 × Int32 × (Nat → Int32))) (lx61 : Int32) (lx62 : Int32) (lx63 : Int32) (lx64 : (Nat → Int32)) (lx65 : Int32) (lx66 : Int32) (lx67 : (Nat → Int32)) (p115 : (Int32 × Int32 × (Nat → Int32))) (y105 : Int32) (y106 : Int32) (f107 : (Nat → Int32)) (p156 : (Int32 × Int32 × (Nat → Int32))) : Int32 × Int32 × Int32 × (Nat → Int32) × Int32 × Int32 × (Nat → Int32) := if ((F_Big_bitLength (220 : Int32) (p156.1 : Int32) (p156.2.1 : Int32) (p156.2.2 : (Nat → Int32))) : Int32) ≤ x4 then (K_F_Mil_power_L16 (lx61 + (-1) : Int32) (p156.1 : Int32) (p156.2.1 : Int32) (p156.2.2 : (Nat → Int32)) y105 y106 f107) else (((0 : Int32), (p156.1 : Int32), (p156.2.1 : Int32), (p156.2.2 : (Nat → Int32)), y105, y106, f107))
def F_Mil_power_c68 (K_F_Mil_power_L16 : Int32 → Int32 → Int32 → (Nat → Int32) → Int32 → Int32 → (Nat → Int32) → (Int32 × Int32 × Int32 × (Nat → Int32) × Int32 × Int32 × (Nat → Int32))) (R : Int32) (x3 : Int32) (x4 : Int32) (t0_0 : Int32) (t0_1 : Int32) (t1_0 : (Nat → Int32)) (t2_0 : Int32) (t2_1 : Int32) (t3_0 : (Nat → Int32)) (t4_0 : Int32) (t4_1 : Int32) (t5_0 : (Nat → Int32)) (p40 : (Int32 × Int32 × (Nat → Int32))) (lx61 : Int32) (lx62 : Int32) (lx63 : Int32) (lx64 : (Nat → Int32)) (lx65 : Int32) (lx66 : Int32) (lx67 : (Nat → Int32)) (p115 : (Int32 × Int32 × (Nat → Int32))) (y105 : Int32) (y106 : Int32) (f107 : (Nat → Int32)) (p194 : (Int32 × Int32 × (Nat → Int32))) : Int32 × Int32 × Int32 × (Nat → Int32) × Int32 × Int32 × (Nat → Int32) := if ((F_Big_bitLength (220 : Int32) (p194.1 : Int32) (p194.2.1 : Int32) (p194.2.2 : (Nat → Int32))) : Int32) ≤ x4 then (K_F_Mil_power_L16 (lx61 + (-1) : Int32) (p194.1 : Int32) (p194.2.1 : Int32) (p194.2.2 : (Nat → Int32)) y105 y106 f107) else (((0 : Int32), (p194.1 : Int32), (p194.2.1 : Int32), (p194.2.2 : (Nat → Int32)), y105, y106, f107))
def F_Mil_power_c33 (K_F_Mil_power_L16 : Int32 → Int32 → Int32 → (Nat → Int32) → Int32 → Int32 → (Nat → Int32) → (Int32 × Int32 × Int32 × (Nat → Int32) × Int32 × Int32 × (Nat → Int32))) (R : Int32) (x3 : Int32) (x4 : Int32) (t0_0 : Int32) (t0_1 : Int32) (t1_0 : (Nat → Int32)) (t2_0 : Int32) (t2_1 : Int32) (t3_0 : (Nat → Int32)) (t4_0 : Int32) (t4_1 : Int32) (t5_0 : (Nat → Int32)) (p40 : (Int32 × Int32 × (Nat → Int32))) (lx61 : Int32) (lx62 : Int32) (lx63 : Int32) (lx64 : (Nat → Int32)) (lx65 : Int32) (lx66 : Int32) (lx67 : (Nat → Int32)) (p115 : (Int32 × Int32 × (Nat → Int32))) : Int32 × Int32 × Int32 × (Nat → Int32) × Int32 × Int32 × (Nat → Int32) := if ((F_Big_bitLength (220 : Int32) (p115.1 : Int32) (p115.2.1 : Int32) (p115.2.2 : (Nat → Int32))) : Int32) ≤ x4 then (if (((x3.toUInt32 >>> (lx61.toUInt32 &&& Int32.toUInt32 31)).toInt32 : Int32) &&& 1 : Int32) = (1 : Int32) then (F_Mil_power_c68 K_F_Mil_power_L16 R x3 x4 t0_0 t0_1 t1_0 t2_0 t2_1 t3_0 t4_0 t4_1 t5_0 p40 lx61 lx62 lx63 lx64 lx65 lx66 lx67 p115 (p115.1 : Int32) (p115.2.1 : Int32) (p115.2.2 : (Nat → Int32)) ((F_Big_product (220 : Int32) (220 : Int32) R lx62 lx63 lx64 (p115.1 : Int32) (p115.2.1 : Int32) (p115.2.2 : (Nat → Int32)) t4_0 t4_1 t5_0) : (Int32 × Int32 × (Nat → Int32)))) else (F_Mil_power_c82 K_F_Mil_power_L16 R x3 x4 t0_0 t0_1 t1_0 t2_0 t2_1 t3_0 t4_0 t4_1 t5_0 p40 lx61 lx62 lx63 lx64 lx65 lx66 lx67 p115 (p115.1 : Int32) (p115.2.1 : Int32) (p115.2.2 : (Nat → Int32)) ((F_Big_copy (220 : Int32) (220 : Int32) lx62 lx63 lx64 (p115.1 : Int32) (p115.2.1 : Int32) (p115.2.2 : (Nat → Int32))) : (Int32 × Int32 × (Nat → Int32))))) else (((0 : Int32), lx62, lx63, lx64, (p115.1 : Int32), (p115.2.1 : Int32), (p115.2.2 : (Nat → Int32))))
def F_Mil_power_L16 (R : Int32) (x3 : Int32) (x4 : Int32) (t0_0 : Int32) (t0_1 : Int32) (t1_0 : (Nat → Int32)) (t2_0 : Int32) (t2_1 : Int32) (t3_0 : (Nat → Int32)) (t4_0 : Int32) (t4_1 : Int32) (t5_0 : (Nat → Int32)) (p40 : (Int32 × Int32 × (Nat → Int32))) : Nat → Int32 → Int32 → Int32 → (Nat → Int32) → Int32 → Int32 → (Nat → Int32) → (Int32 × Int32 × Int32 × (Nat → Int32) × Int32 × Int32 × (Nat → Int32))
  | 0, _, _, _, _, _, _, _ => default
  | fm + 1, lx61, lx62, lx63, lx64, lx65, lx66, lx67 => if lx61 < (0 : Int32) then (((1 : Int32), lx62, lx63, lx64, lx65, lx66, lx67)) else (F_Mil_power_c33 (F_Mil_power_L16 R x3 x4 t0_0 t0_1 t1_0 t2_0 t2_1 t3_0 t4_0 t4_1 t5_0 p40 fm) R x3 x4 t0_0 t0_1 t1_0 t2_0 t2_1 t3_0 t4_0 t4_1 t5_0 p40 lx61 lx62 lx63 lx64 lx65 lx66 lx67 ((F_Big_product (220 : Int32) (220 : Int32) (220 : Int32) lx65 lx66 lx67 lx62 lx63 lx64 lx62 lx63 lx64) : (Int32 × Int32 × (Nat → Int32))))
def F_Mil_power_c5 (R : Int32) (x3 : Int32) (x4 : Int32) (t0_0 : Int32) (t0_1 : Int32) (t1_0 : (Nat → Int32)) (t2_0 : Int32) (t2_1 : Int32) (t3_0 : (Nat → Int32)) (t4_0 : Int32) (t4_1 : Int32) (t5_0 : (Nat → Int32)) (p40 : (Int32 × Int32 × (Nat → Int32))) : Int32 × Int32 × Int32 × (Nat → Int32) × Int32 × Int32 × (Nat → Int32) := F_Mil_power_L16 R x3 x4 t0_0 t0_1 t1_0 t2_0 t2_1 t3_0 t4_0 t4_1 t5_0 p40 (((((F_Big_bitsOf x3) : Int32) - 1 : Int32).toInt - ((-1))).toNat + 1) (((F_Big_bitsOf x3) : Int32) - 1 : Int32) (p40.1 : Int32) (p40.2.1 : Int32) (p40.2.2 : (Nat → Int32)) t2_0 t2_1 t3_0
def F_Mil_power (R : Int32) (x3 : Int32) (x4 : Int32) (t0_0 : Int32) (t0_1 : Int32) (t1_0 : (Nat → Int32)) (t2_0 : Int32) (t2_1 : Int32) (t3_0 : (Nat → Int32)) (t4_0 : Int32) (t4_1 : Int32) (t5_0 : (Nat → Int32)) : Int32 × Int32 × Int32 × (Nat → Int32) × Int32 × Int32 × (Nat → Int32) := F_Mil_power_c5 R x3 x4 t0_0 t0_1 t1_0 t2_0 t2_1 t3_0 t4_0 t4_1 t5_0 ((F_Big_setLong (220 : Int32) (1 : Int64) t0_0 t0_1 t1_0) : (Int32 × Int32 × (Nat → Int32)))
set_option maxRecDepth 100000 in
set_option maxHeartbeats 4000000 in
theorem X_Mil_power (l : Launch) (D : va_G) (g : Nat → ClassId) (q : Nat → Nat) (ws : va_W) (k2 : Nat) (R : Int32) (hB2 : q_isBig (nsh g q) g q k2 R) (zk2 : (10 ≤ k2 ∧ k2 ≤ 32) ∨ 66 ≤ k2) (x3 : Int32) (x4 : Int32) (ne_k2_14 : k2 ≠ 14) (ne_k2_15 : k2 ≠ 15) (ne_k2_13 : k2 ≠ 13) (ne_k2_18 : k2 ≠ 18) (ne_k2_19 : k2 ≠ 19) (ne_k2_17 : k2 ≠ 17) (hI : q_I (nsh g q) q ws) (t0_0 : Int32) (t0_1 : Int32) (hT0 : ws[14]? = (some (q 14, .inr (2, [.ref (q 15), .int t0_0, .int t0_1])) : Option (Nat × va_E))) (t1_0 : (Nat → Int32)) (hT1 : ws[15]? = (some (q 15, .inl (g 0, (220 : Int32).toNatClampNeg, .inl t1_0)) : Option (Nat × va_E))) (t2_0 : Int32) (t2_1 : Int32) (hT2 : ws[18]? = (some (q 18, .inr (2, [.ref (q 19), .int t2_0, .int t2_1])) : Option (Nat × va_E))) (t3_0 : (Nat → Int32)) (hT3 : ws[19]? = (some (q 19, .inl (g 0, (220 : Int32).toNatClampNeg, .inl t3_0)) : Option (Nat × va_E))) (t4_0 : Int32) (t4_1 : Int32) (hT4 : ws[k2]? = (some (q k2, .inr (2, [.ref (q (k2 + 1)), .int t4_0, .int t4_1])) : Option (Nat × va_E))) (t5_0 : (Nat → Int32)) (hT5 : ws[k2 + 1]? = (some (q (k2 + 1), .inl (g 0, R.toNatClampNeg, .inl t5_0)) : Option (Nat × va_E))) : q_mI l y_Mil_power prog_8_method_8_code 5 (.boolean) 4 0 0 D g [.ref (q 9), .ref (q k2), .int x3, .int x4] ws (fun r u => q_I (nsh g q) q u ∧ q_un ws u [14, 15, 18, 19] ∧ ∃ (u0_0 : Int32) (u0_1 : Int32) (u1_0 : (Nat → Int32)) (u2_0 : Int32) (u2_1 : Int32) (u3_0 : (Nat → Int32)), u[14]? = (some (q 14, .inr (2, [.ref (q 15), .int u0_0, .int u0_1])) : Option (Nat × va_E)) ∧ u[15]? = (some (q 15, .inl (g 0, (220 : Int32).toNatClampNeg, .inl u1_0)) : Option (Nat × va_E)) ∧ u[18]? = (some (q 18, .inr (2, [.ref (q 19), .int u2_0, .int u2_1])) : Option (Nat × va_E)) ∧ u[19]? = (some (q 19, .inl (g 0, (220 : Int32).toNatClampNeg, .inl u3_0)) : Option (Nat × va_E)) ∧ (0 ≤ r.toInt) ∧ (r.toInt ≤ 1) ∧ (0 ≤ u0_0.toInt) ∧ (u0_0.toInt ≤ 220) ∧ (0 ≤ u0_1.toInt) ∧ (u0_1.toInt ≤ 1) ∧ (0 ≤ u2_0.toInt) ∧ (u2_0.toInt ≤ 220) ∧ (0 ≤ u2_1.toInt) ∧ (u2_1.toInt ≤ 1) ∧ (r, u0_0, u0_1, u1_0, u2_0, u2_1, u3_0) = (F_Mil_power R x3 x4 t0_0 t0_1 t1_0 t2_0 t2_1 t3_0 t4_0 t4_1 t5_0)) := by
  intro sz
  refine q_into (by decide) (Nat.le_of_ble_eq_true rfl) ?_
  intro p e s m below meth c ls hsz C0 V hl
  have hx := C0.1
  have hb := C0.2.1
  have btt0_1 := (q_bigW hI (n_b14 g q) hT0).2
  clear btt0_1
  obtain ⟨btt2_0, btt2_1⟩ := q_bigW hI (n_b18 g q) hT2
  replace btt2_0 : q_F (0 ≤ t2_0.toInt ∧ t2_0.toInt ≤ 220) := btt2_0
  replace btt2_1 : q_F (0 ≤ t2_1.toInt ∧ t2_1.toInt ≤ 1) := btt2_1
  have btt4_1 := (q_bigW hI hB2 hT4).2
  clear btt4_1
  have hF : q_un ws ws [14, 15, 18, 19] := q_u0
  have hl : lv_has ls 5 [(0, .ref (q 9)), (1, .ref (q k2)), (2, .int x3), (3, .int x4)] := hl
  refine lv_aload_n hx hb d_8_8_0 rfl (lv_at hl 0 rfl) ?_
  have hO25 := n_o9 hI
  refine q_get (ci := 4) (j := 2) (v := .ref (q 14)) C0 V i_Mil rfl rfl hO25 (by decide) w_117 rfl d_8_8_1 ?_
  refine lv_lconst (v := 1) hx hb d_8_8_4 (by decide) ?_
  refine q_gov V (q_runV (As := [.long 1]) (rest := []) (d := 2) (mc := 0) (ms := 0) (ci := 2) C0 V rfl LV_Mil_77 (X_Big_setLong l D g q ws 14 220 (n_b14 g q) (by decide) 1 hI t0_0 t0_1 hT0 t1_0 hT1  _) rfl rfl hT0 rfl hl.1 rfl (Nat.le_of_ble_eq_true rfl) ⟨by decide, by decide⟩ ⟨Nat.le_of_ble_eq_true rfl, Nat.le_of_ble_eq_true rfl⟩ d_8_8_5) (fun u26 H locs hp27 V => ?_)
  obtain ⟨hI, hZ9⟩ := hp27
  obtain ⟨hu39, hZ9⟩ := hZ9
  obtain ⟨y29, hZ9⟩ := hZ9
  obtain ⟨y30, hZ9⟩ := hZ9
  obtain ⟨f31, hZ9⟩ := hZ9
  obtain ⟨hO28, hZ9⟩ := hZ9
  obtain ⟨hA32, hZ9⟩ := hZ9
  obtain ⟨b33, hZ9⟩ := hZ9
  obtain ⟨b34, hZ9⟩ := hZ9
  obtain ⟨b35, hZ9⟩ := hZ9
  obtain ⟨b36, hZ9⟩ := hZ9
  obtain ⟨-, hE38⟩ := hZ9
  replace hO28 : u26[14]? = (some (q 14, .inr (2, [.ref (q 15), .int y29, .int y30])) : Option (Nat × va_E)) := hO28
  replace hA32 : u26[15]? = (some (q 15, .inl (g 0, (220 : Int32).toNatClampNeg, .inl f31)) : Option (Nat × va_E)) := hA32
  obtain ⟨p40, e41⟩ : ∃ z, z = (F_Big_setLong (220 : Int32) (1 : Int64) t0_0 t0_1 t1_0) := ⟨_, rfl⟩
  have e42 : y29 = p40.1 := congrArg (fun z => z.1) (hE38.trans e41.symm)
  have e43 : y30 = p40.2.1 := congrArg (fun z => z.2.1) (hE38.trans e41.symm)
  have e44 : f31 = p40.2.2 := congrArg (fun z => z.2.2) (hE38.trans e41.symm)
  replace b33 : q_F (0 ≤ y29.toInt) := b33
  replace b34 : q_F (y29.toInt ≤ 3) := b34
  replace b35 : q_F (0 ≤ y30.toInt) := b35
  replace b36 : q_F (y30.toInt ≤ 1) := b36
  replace hT2 := (hu39 _ (by decide)).trans hT2
  replace hT3 := (hu39 _ (by decide)).trans hT3
  replace hT4 := (hu39 _ (by first | exact (q_nc ne_k2_14 (q_nc ne_k2_15 List.not_mem_nil)) | (have z0 := zk2; simp only [List.mem_cons, List.not_mem_nil, or_false, not_or]; omega))).trans hT4
  replace hT5 := (hu39 _ (by first | exact (q_nc (q_nt1 ne_k2_13) (q_nc (q_nt1 ne_k2_14) List.not_mem_nil)) | (have z0 := zk2; simp only [List.mem_cons, List.not_mem_nil, or_false, not_or]; omega))).trans hT5
  replace hF := q_uc hF hu39 (by first | exact (q_sk (q_mi 0 rfl) (q_sk (q_mi 1 rfl) q_s0)) | simp)
  have hR45 := (show F_Mil_power_c5 R x3 x4 t0_0 t0_1 t1_0 t2_0 t2_1 t3_0 t4_0 t4_1 t5_0 p40 = (F_Mil_power R x3 x4 t0_0 t0_1 t1_0 t2_0 t2_1 t3_0 t4_0 t4_1 t5_0) from (by rw [e41, F_Mil_power.eq_1]))
  refine lv_iload_n hx hb d_8_8_8 rfl (lv_at hl 2 rfl) ?_
  refine q_goi V (q_runS (As := [.int x3]) (rest := []) (d := 2) (mc := 0) (ms := 0) C0 V rfl LS_Mil_93 (X_Big_bitsOf l D g q u26  x3 hI   _) rfl hl.1 rfl (Nat.le_of_ble_eq_true rfl) ⟨by decide, by decide⟩ ⟨Nat.le_of_ble_eq_true rfl, Nat.le_of_ble_eq_true rfl⟩ d_8_8_9) (fun a52 u50 H locs hp51 V => ?_)
  obtain ⟨rfl, b53, b54, hE55⟩ := hp51
  have e56 : a52 = (F_Big_bitsOf x3) := hE55
  replace b53 : q_F (0 ≤ a52.toInt) := b53
  replace b54 : q_F (a52.toInt ≤ 63) := b54
  refine lv_iconst (v := 1) hx hb d_8_8_12 (by decide) ?_
  refine lv_isub hx hb d_8_8_13 ?_
  obtain ⟨a57, e58⟩ := q_nm (a52 - 1 : Int32)
  refine q_ti (v := a57) e58 ?_
  have b59 : q_F (a57.toInt = a52.toInt - 1) := (by rw [← e58]; show (a52 - 1 : Int32).toInt = a52.toInt - 1; exact q_subI (x := a52.toInt) (y := 1) rfl (by decide) (by have t1 : 0 ≤ a52.toInt := b53; have t2 : a52.toInt ≤ 63 := b54; omega) (by have t1 : 0 ≤ a52.toInt := b53; have t2 : a52.toInt ≤ 63 := b54; omega))
  refine lv_istore (lv' := [(4, .int a57), (0, .ref (q 9)), (1, .ref (q k2)), (2, .int x3), (3, .int x4)]) hx hb d_8_8_14 hl (by decide) rfl (fun ls hl => ?_)
  refine q_loop (X := Int32 × Int32 × Int32 × (Nat → Int32) × Int32 × Int32 × (Nat → Int32)) (fun z H locs ls w86 => q_F (z.2.1.toInt ≤ 220) ∧ q_F (z.2.2.2.2.2.1.toInt ≤ z.1.toInt + 2) ∧ q_F (0 ≤ z.1.toInt + z.2.2.2.2.2.1.toInt + 1) ∧ q_F (z.2.2.2.2.2.1.toInt ≤ z.2.1.toInt + 1) ∧ q_F (0 ≤ z.2.1.toInt + z.2.2.2.2.2.1.toInt) ∧ q_F (z.2.2.2.2.2.1.toInt ≤ z.2.2.1.toInt + 1) ∧ q_F (z.2.2.1.toInt ≤ z.2.2.2.2.2.1.toInt + 1) ∧ q_F (0 ≤ z.2.2.1.toInt + z.2.2.2.2.2.1.toInt) ∧ q_F (z.2.2.1.toInt + z.2.2.2.2.2.1.toInt ≤ 2) ∧ q_F (z.2.2.2.2.2.1.toInt ≤ z.2.2.2.2.1.toInt + 1) ∧ q_F (z.2.2.2.2.1.toInt ≤ z.2.2.2.2.2.1.toInt + 220) ∧ q_F (0 ≤ z.2.2.2.2.1.toInt + z.2.2.2.2.2.1.toInt) ∧ q_F (z.2.2.2.2.1.toInt + z.2.2.2.2.2.1.toInt ≤ 221) ∧ q_F (z.1.toInt + z.2.2.1.toInt ≤ a57.toInt + y30.toInt) ∧ q_F (z.1.toInt + y30.toInt ≤ z.2.2.1.toInt + a57.toInt) ∧ q_F (z.1.toInt + z.2.2.2.2.2.1.toInt ≤ a57.toInt + t2_1.toInt) ∧ q_F (z.1.toInt + t2_1.toInt ≤ z.2.2.2.2.2.1.toInt + a57.toInt) ∧ q_Wd D g (va_A ws sz) s w86 H locs ∧ lv_has ls 5 [(4, .int z.1), (0, .ref (q 9)), (1, .ref (q k2)), (2, .int x3), (3, .int x4)] ∧ q_I (nsh g q) q w86 ∧ q_un ws w86 [14, 15, 18, 19] ∧ w86[14]? = (some (q 14, .inr (2, [.ref (q 15), .int z.2.1, .int z.2.2.1])) : Option (Nat × va_E)) ∧ w86[15]? = (some (q 15, .inl (g 0, (220 : Int32).toNatClampNeg, .inl z.2.2.2.1)) : Option (Nat × va_E)) ∧ w86[18]? = (some (q 18, .inr (2, [.ref (q 19), .int z.2.2.2.2.1, .int z.2.2.2.2.2.1])) : Option (Nat × va_E)) ∧ w86[19]? = (some (q 19, .inl (g 0, (220 : Int32).toNatClampNeg, .inl z.2.2.2.2.2.2)) : Option (Nat × va_E)) ∧ w86[k2]? = (some (q k2, .inr (2, [.ref (q (k2 + 1)), .int t4_0, .int t4_1])) : Option (Nat × va_E)) ∧ w86[k2 + 1]? = (some (q (k2 + 1), .inl (g 0, R.toNatClampNeg, .inl t5_0)) : Option (Nat × va_E)) ∧ (∃ n, (z.1.toInt - ((-1))).toNat < n ∧ F_Mil_power_L16 R x3 x4 t0_0 t0_1 t1_0 t2_0 t2_1 t3_0 t4_0 t4_1 t5_0 p40 n z.1 z.2.1 z.2.2.1 z.2.2.2.1 z.2.2.2.2.1 z.2.2.2.2.2.1 z.2.2.2.2.2.2 = (F_Mil_power R x3 x4 t0_0 t0_1 t1_0 t2_0 t2_1 t3_0 t4_0 t4_1 t5_0))) (fun z => (z.1.toInt - ((-1))).toNat) ?_ ((a57 : Int32), (y29 : Int32), (y30 : Int32), (f31 : (Nat → Int32)), (t2_0 : Int32), (t2_1 : Int32), (t3_0 : (Nat → Int32))) _ _ _ u26 ⟨(show q_F (y29.toInt ≤ 220) from (show y29.toInt ≤ 220 from by have t1 : y29.toInt ≤ 3 := b34; omega)), (show q_F (t2_1.toInt ≤ a57.toInt + 2) from (show t2_1.toInt ≤ a57.toInt + 2 from by have t1 : 0 ≤ t2_1.toInt ∧ t2_1.toInt ≤ 1 := btt2_1; have t2 : 0 ≤ a52.toInt := b53; have t3 : a57.toInt = a52.toInt - 1 := b59; omega)), (show q_F (0 ≤ a57.toInt + t2_1.toInt + 1) from (show 0 ≤ a57.toInt + t2_1.toInt + 1 from by have t1 : 0 ≤ t2_1.toInt ∧ t2_1.toInt ≤ 1 := btt2_1; have t2 : 0 ≤ a52.toInt := b53; have t3 : a57.toInt = a52.toInt - 1 := b59; omega)), (show q_F (t2_1.toInt ≤ y29.toInt + 1) from (show t2_1.toInt ≤ y29.toInt + 1 from by have t1 : 0 ≤ t2_1.toInt ∧ t2_1.toInt ≤ 1 := btt2_1; have t2 : 0 ≤ y29.toInt := b33; omega)), (show q_F (0 ≤ y29.toInt + t2_1.toInt) from (show 0 ≤ y29.toInt + t2_1.toInt from by have t1 : 0 ≤ t2_1.toInt ∧ t2_1.toInt ≤ 1 := btt2_1; have t2 : 0 ≤ y29.toInt := b33; omega)), (show q_F (t2_1.toInt ≤ y30.toInt + 1) from (show t2_1.toInt ≤ y30.toInt + 1 from by have t1 : 0 ≤ t2_1.toInt ∧ t2_1.toInt ≤ 1 := btt2_1; have t2 : 0 ≤ y30.toInt := b35; omega)), (show q_F (y30.toInt ≤ t2_1.toInt + 1) from (show y30.toInt ≤ t2_1.toInt + 1 from by have t1 : 0 ≤ t2_1.toInt ∧ t2_1.toInt ≤ 1 := btt2_1; have t2 : y30.toInt ≤ 1 := b36; omega)), (show q_F (0 ≤ y30.toInt + t2_1.toInt) from (show 0 ≤ y30.toInt + t2_1.toInt from by have t1 : 0 ≤ t2_1.toInt ∧ t2_1.toInt ≤ 1 := btt2_1; have t2 : 0 ≤ y30.toInt := b35; omega)), (show q_F (y30.toInt + t2_1.toInt ≤ 2) from (show y30.toInt + t2_1.toInt ≤ 2 from by have t1 : 0 ≤ t2_1.toInt ∧ t2_1.toInt ≤ 1 := btt2_1; have t2 : y30.toInt ≤ 1 := b36; omega)), (show q_F (t2_1.toInt ≤ t2_0.toInt + 1) from (show t2_1.toInt ≤ t2_0.toInt + 1 from by have t1 : 0 ≤ t2_0.toInt ∧ t2_0.toInt ≤ 220 := btt2_0; have t2 : 0 ≤ t2_1.toInt ∧ t2_1.toInt ≤ 1 := btt2_1; omega)), (show q_F (t2_0.toInt ≤ t2_1.toInt + 220) from (show t2_0.toInt ≤ t2_1.toInt + 220 from by have t1 : 0 ≤ t2_0.toInt ∧ t2_0.toInt ≤ 220 := btt2_0; have t2 : 0 ≤ t2_1.toInt ∧ t2_1.toInt ≤ 1 := btt2_1; omega)), (show q_F (0 ≤ t2_0.toInt + t2_1.toInt) from (show 0 ≤ t2_0.toInt + t2_1.toInt from by have t1 : 0 ≤ t2_0.toInt ∧ t2_0.toInt ≤ 220 := btt2_0; have t2 : 0 ≤ t2_1.toInt ∧ t2_1.toInt ≤ 1 := btt2_1; omega)), (show q_F (t2_0.toInt + t2_1.toInt ≤ 221) from (show t2_0.toInt + t2_1.toInt ≤ 221 from by have t1 : 0 ≤ t2_0.toInt ∧ t2_0.toInt ≤ 220 := btt2_0; have t2 : 0 ≤ t2_1.toInt ∧ t2_1.toInt ≤ 1 := btt2_1; omega)), (show q_F (a57.toInt + y30.toInt ≤ a57.toInt + y30.toInt) from (show a57.toInt + y30.toInt ≤ a57.toInt + y30.toInt from by omega)), (show q_F (a57.toInt + y30.toInt ≤ y30.toInt + a57.toInt) from (show a57.toInt + y30.toInt ≤ y30.toInt + a57.toInt from by omega)), (show q_F (a57.toInt + t2_1.toInt ≤ a57.toInt + t2_1.toInt) from (show a57.toInt + t2_1.toInt ≤ a57.toInt + t2_1.toInt from by omega)), (show q_F (a57.toInt + t2_1.toInt ≤ t2_1.toInt + a57.toInt) from (show a57.toInt + t2_1.toInt ≤ t2_1.toInt + a57.toInt from by omega)), V, q_lw hl (q_lw1 0 rfl (q_lw1 1 rfl (q_lw1 2 rfl (q_lw1 3 rfl (q_lw1 4 rfl q_lw0))))), hI, hF, hO28, hA32, hT2, hT3, hT4, hT5, ⟨((a57.toInt - ((-1))).toNat + 1), Nat.lt_succ_self _, (show F_Mil_power_L16 R x3 x4 t0_0 t0_1 t1_0 t2_0 t2_1 t3_0 t4_0 t4_1 t5_0 p40 ((a57.toInt - ((-1))).toNat + 1) a57 y29 y30 f31 t2_0 t2_1 t3_0 = (F_Mil_power R x3 x4 t0_0 t0_1 t1_0 t2_0 t2_1 t3_0 t4_0 t4_1 t5_0) from Eq.trans (by rw [← e58, e56, e44, e43, e42, F_Mil_power_c5.eq_1]) hR45)⟩⟩
  rintro ⟨lx61, lx62, lx63, lx64, lx65, lx66, lx67⟩ H locs ls w86 ⟨i68, i69, i70, i71, i72, i73, i74, i75, i76, i77, i78, i79, i80, i81, i82, i83, i84, V, hl, hI, hF, hO87, hO88, hO89, hO90, hO91, hO92, ⟨fu95, hf96, hR93⟩⟩ ih85
  obtain ⟨fm97, rfl⟩ : ∃ m, fu95 = m + 1 := ⟨fu95 - 1, by omega⟩
  replace i68 : q_F (lx62.toInt ≤ 220) := i68
  replace i69 : q_F (lx66.toInt ≤ lx61.toInt + 2) := i69
  replace i70 : q_F (0 ≤ lx61.toInt + lx66.toInt + 1) := i70
  replace i71 : q_F (lx66.toInt ≤ lx62.toInt + 1) := i71
  replace i72 : q_F (0 ≤ lx62.toInt + lx66.toInt) := i72
  replace i73 : q_F (lx66.toInt ≤ lx63.toInt + 1) := i73
  replace i74 : q_F (lx63.toInt ≤ lx66.toInt + 1) := i74
  replace i75 : q_F (0 ≤ lx63.toInt + lx66.toInt) := i75
  replace i76 : q_F (lx63.toInt + lx66.toInt ≤ 2) := i76
  replace i77 : q_F (lx66.toInt ≤ lx65.toInt + 1) := i77
  replace i78 : q_F (lx65.toInt ≤ lx66.toInt + 220) := i78
  replace i79 : q_F (0 ≤ lx65.toInt + lx66.toInt) := i79
  replace i80 : q_F (lx65.toInt + lx66.toInt ≤ 221) := i80
  replace i81 : q_F (lx61.toInt + lx63.toInt ≤ a57.toInt + y30.toInt) := i81
  replace i82 : q_F (lx61.toInt + y30.toInt ≤ lx63.toInt + a57.toInt) := i82
  clear i83
  clear i84
  replace hl : lv_has ls 5 [(4, .int lx61), (0, .ref (q 9)), (1, .ref (q k2)), (2, .int x3), (3, .int x4)] := hl
  replace hO87 : w86[14]? = (some (q 14, .inr (2, [.ref (q 15), .int lx62, .int lx63])) : Option (Nat × va_E)) := hO87
  replace hO88 : w86[15]? = (some (q 15, .inl (g 0, (220 : Int32).toNatClampNeg, .inl lx64)) : Option (Nat × va_E)) := hO88
  replace hO89 : w86[18]? = (some (q 18, .inr (2, [.ref (q 19), .int lx65, .int lx66])) : Option (Nat × va_E)) := hO89
  replace hO90 : w86[19]? = (some (q 19, .inl (g 0, (220 : Int32).toNatClampNeg, .inl lx67)) : Option (Nat × va_E)) := hO90
  replace hO91 : w86[k2]? = (some (q k2, .inr (2, [.ref (q (k2 + 1)), .int t4_0, .int t4_1])) : Option (Nat × va_E)) := hO91
  replace hO92 : w86[k2 + 1]? = (some (q (k2 + 1), .inl (g 0, R.toNatClampNeg, .inl t5_0)) : Option (Nat × va_E)) := hO92
  refine lv_iload hx hb d_8_8_16 (lv_at hl 0 rfl) ?_
  refine lv_if_lt (tgt := 104) hx hb d_8_8_18 (by decide) (fun c98 => ?_) (fun c98 => ?_)
  ·
    refine lv_iconst (v := 1) hx hb d_8_8_104 (by decide) ?_
    exact q_retz C0 V (by decide) (⟨hI, hF, lx62, lx63, lx64, lx65, lx66, lx67, hO87, hO88, hO89, hO90, (show 0 ≤ (1 : Int32).toInt from (by have z12 : (1 : Int32).toInt = 1 := rfl; omega)), (show (1 : Int32).toInt ≤ 1 from (by have z12 : (1 : Int32).toInt = 1 := rfl; omega)), (show 0 ≤ lx62.toInt from (by have z12 : (1 : Int32).toInt = 1 := rfl; have t1 : lx66.toInt ≤ lx62.toInt + 1 := i71; have t2 : 0 ≤ lx62.toInt + lx66.toInt := i72; omega)), (show lx62.toInt ≤ 220 from (by have z12 : (1 : Int32).toInt = 1 := rfl; have t1 : lx62.toInt ≤ 220 := i68; omega)), (show 0 ≤ lx63.toInt from (by have z12 : (1 : Int32).toInt = 1 := rfl; have t1 : lx66.toInt ≤ lx63.toInt + 1 := i73; have t2 : 0 ≤ lx63.toInt + lx66.toInt := i75; omega)), (show lx63.toInt ≤ 1 from (by have z12 : (1 : Int32).toInt = 1 := rfl; have t1 : lx63.toInt ≤ lx66.toInt + 1 := i74; have t2 : lx63.toInt + lx66.toInt ≤ 2 := i76; omega)), (show 0 ≤ lx65.toInt from (by have z12 : (1 : Int32).toInt = 1 := rfl; have t1 : lx66.toInt ≤ lx65.toInt + 1 := i77; have t2 : 0 ≤ lx65.toInt + lx66.toInt := i79; omega)), (show lx65.toInt ≤ 220 from (by have z12 : (1 : Int32).toInt = 1 := rfl; have t1 : lx65.toInt ≤ lx66.toInt + 220 := i78; have t2 : lx65.toInt + lx66.toInt ≤ 221 := i80; omega)), (show 0 ≤ lx66.toInt from (by have z12 : (1 : Int32).toInt = 1 := rfl; have t1 : lx63.toInt ≤ lx66.toInt + 1 := i74; have t2 : 0 ≤ lx63.toInt + lx66.toInt := i75; omega)), (show lx66.toInt ≤ 1 from (by have z12 : (1 : Int32).toInt = 1 := rfl; have t1 : lx66.toInt ≤ lx63.toInt + 1 := i73; have t2 : lx63.toInt + lx66.toInt ≤ 2 := i76; omega)), (show ((1 : Int32), lx62, lx63, lx64, lx65, lx66, lx67) = (F_Mil_power R x3 x4 t0_0 t0_1 t1_0 t2_0 t2_1 t3_0 t4_0 t4_1 t5_0) from Eq.trans (by rw [F_Mil_power_L16.eq_2, if_pos c98]) hR93)⟩) d_8_8_105
  ·
    have b100 : q_F (0 ≤ lx61.toInt) := (q_nltI c98)
    refine lv_aload_n hx hb d_8_8_21 rfl (lv_at hl 1 rfl) ?_
    have hO101 := n_o9 hI
    refine q_get (ci := 4) (j := 4) (v := .ref (q 18)) C0 V i_Mil rfl rfl hO101 (by decide) w_123 rfl d_8_8_22 ?_
    refine lv_aload_n hx hb d_8_8_25 rfl (lv_at hl 1 rfl) ?_
    refine q_get (ci := 4) (j := 2) (v := .ref (q 14)) C0 V i_Mil rfl rfl hO101 (by decide) w_117 rfl d_8_8_26 ?_
    refine lv_aload_n hx hb d_8_8_29 rfl (lv_at hl 1 rfl) ?_
    refine q_get (ci := 4) (j := 2) (v := .ref (q 14)) C0 V i_Mil rfl rfl hO101 (by decide) w_117 rfl d_8_8_30 ?_
    refine q_gov V (q_runV (As := [.ref (q 14), .ref (q 14)]) (rest := []) (d := 3) (mc := 0) (ms := 0) (ci := 2) C0 V rfl LV_Mil_47 (X_Big_product l D g q w86 18 220 (n_b18 g q) (by decide) 14 220 (n_b14 g q) (by decide) 14 220 (n_b14 g q) (by decide)  (by decide) (by decide) hI lx65 lx66 hO89 lx67 hO90 lx62 lx63 hO87 lx64 hO88 lx62 lx63 hO87 lx64 hO88  _) rfl rfl hO89 rfl hl.1 rfl (Nat.le_of_ble_eq_true rfl) ⟨by decide, by decide⟩ ⟨Nat.le_of_ble_eq_true rfl, Nat.le_of_ble_eq_true rfl⟩ d_8_8_33) (fun u102 H locs hp103 V => ?_)
    obtain ⟨hI, hZ9⟩ := hp103
    obtain ⟨hu114, hZ9⟩ := hZ9
    obtain ⟨y105, hZ9⟩ := hZ9
    obtain ⟨y106, hZ9⟩ := hZ9
    obtain ⟨f107, hZ9⟩ := hZ9
    obtain ⟨hO104, hZ9⟩ := hZ9
    obtain ⟨hA108, hZ9⟩ := hZ9
    obtain ⟨b109, hZ9⟩ := hZ9
    obtain ⟨b110, hZ9⟩ := hZ9
    obtain ⟨b111, hZ9⟩ := hZ9
    obtain ⟨b112, hE113⟩ := hZ9
    replace hO104 : u102[18]? = (some (q 18, .inr (2, [.ref (q 19), .int y105, .int y106])) : Option (Nat × va_E)) := hO104
    replace hA108 : u102[19]? = (some (q 19, .inl (g 0, (220 : Int32).toNatClampNeg, .inl f107)) : Option (Nat × va_E)) := hA108
    obtain ⟨p115, e116⟩ : ∃ z, z = (F_Big_product (220 : Int32) (220 : Int32) (220 : Int32) lx65 lx66 lx67 lx62 lx63 lx64 lx62 lx63 lx64) := ⟨_, rfl⟩
    have e117 : y105 = p115.1 := congrArg (fun z => z.1) (hE113.trans e116.symm)
    have e118 : y106 = p115.2.1 := congrArg (fun z => z.2.1) (hE113.trans e116.symm)
    have e119 : f107 = p115.2.2 := congrArg (fun z => z.2.2) (hE113.trans e116.symm)
    replace b109 : q_F (0 ≤ y106.toInt) := b109
    replace b110 : q_F (y106.toInt ≤ 1) := b110
    replace b111 : q_F (y105.toInt ≤ 220) := b111
    replace b112 : q_F (y106.toInt ≤ y105.toInt) := b112
    replace hO87 := (hu114 _ (by decide)).trans hO87
    replace hO88 := (hu114 _ (by decide)).trans hO88
    replace hO91 := (hu114 _ (by first | exact (q_nc ne_k2_18 (q_nc ne_k2_19 List.not_mem_nil)) | (have z0 := zk2; simp only [List.mem_cons, List.not_mem_nil, or_false, not_or]; omega))).trans hO91
    replace hO92 := (hu114 _ (by first | exact (q_nc (q_nt1 ne_k2_17) (q_nc (q_nt1 ne_k2_18) List.not_mem_nil)) | (have z0 := zk2; simp only [List.mem_cons, List.not_mem_nil, or_false, not_or]; omega))).trans hO92
    replace hO101 := (hu114 _ (by decide)).trans hO101
    replace hF := q_uc hF hu114 (by first | exact (q_sk (q_mi 2 rfl) (q_sk (q_mi 3 rfl) q_s0)) | simp)
    have hR120 := (show F_Mil_power_c33 (F_Mil_power_L16 R x3 x4 t0_0 t0_1 t1_0 t2_0 t2_1 t3_0 t4_0 t4_1 t5_0 p40 fm97) R x3 x4 t0_0 t0_1 t1_0 t2_0 t2_1 t3_0 t4_0 t4_1 t5_0 p40 lx61 lx62 lx63 lx64 lx65 lx66 lx67 p115 = (F_Mil_power R x3 x4 t0_0 t0_1 t1_0 t2_0 t2_1 t3_0 t4_0 t4_1 t5_0) from Eq.trans (by rw [e116, F_Mil_power_L16.eq_2, if_neg c98]) hR93)
    refine lv_aload_n hx hb d_8_8_36 rfl (lv_at hl 1 rfl) ?_
    refine q_get (ci := 4) (j := 4) (v := .ref (q 18)) C0 V i_Mil rfl rfl hO101 (by decide) w_123 rfl d_8_8_37 ?_
    refine q_goi V (q_runV (As := []) (rest := []) (d := 3) (mc := 0) (ms := 0) (ci := 2) C0 V rfl LV_Mil_85 (X_Big_bitLength l D g q u102 18 220 (n_b18 g q) (by decide)  hI y105 y106 hO104 f107 hA108  _) rfl rfl hO104 rfl hl.1 rfl (Nat.le_of_ble_eq_true rfl) ⟨by decide, by decide⟩ ⟨Nat.le_of_ble_eq_true rfl, Nat.le_of_ble_eq_true rfl⟩ d_8_8_40) (fun a127 u125 H locs hp126 V => ?_)
    obtain ⟨rfl, b128, b129, b130, hE131⟩ := hp126
    have e132 : a127 = (F_Big_bitLength (220 : Int32) y105 y106 f107) := hE131
    clear b128
    clear b129
    clear b130
    refine lv_iload_n hx hb d_8_8_43 rfl (lv_at hl 4 rfl) ?_
    refine lv_icmp_le (tgt := 49) hx hb d_8_8_44 (by decide) (fun c133 => ?_) (fun c133 => ?_)
    ·
      refine lv_iload_n hx hb d_8_8_49 rfl (lv_at hl 3 rfl) ?_
      refine lv_iload hx hb d_8_8_50 (lv_at hl 0 rfl) ?_
      refine lv_iushr hx hb d_8_8_52 rfl ?_
      obtain ⟨a135, e136⟩ := q_nm ((x3.toUInt32 >>> (lx61.toUInt32 &&& Int32.toUInt32 31)).toInt32 : Int32)
      refine q_ti (v := a135) e136 ?_
      refine lv_iconst (v := 1) hx hb d_8_8_53 (by decide) ?_
      refine lv_iand hx hb d_8_8_54 ?_
      obtain ⟨a137, e138⟩ := q_nm (a135 &&& 1 : Int32)
      refine q_ti (v := a137) e138 ?_
      refine lv_iconst (v := 1) hx hb d_8_8_55 (by decide) ?_
      refine lv_icmp_ne (tgt := 74) hx hb d_8_8_56 (by decide) (fun c140 => ?_) (fun c140 => ?_)
      ·
        refine lv_aload_n hx hb d_8_8_74 rfl (lv_at hl 1 rfl) ?_
        refine q_get (ci := 4) (j := 2) (v := .ref (q 14)) C0 V i_Mil rfl rfl hO101 (by decide) w_117 rfl d_8_8_75 ?_
        refine lv_aload_n hx hb d_8_8_78 rfl (lv_at hl 1 rfl) ?_
        refine q_get (ci := 4) (j := 4) (v := .ref (q 18)) C0 V i_Mil rfl rfl hO101 (by decide) w_123 rfl d_8_8_79 ?_
        refine q_gov V (q_runV (As := [.ref (q 18)]) (rest := []) (d := 2) (mc := 0) (ms := 0) (ci := 2) C0 V rfl LV_Mil_51 (X_Big_copy l D g q u102 14 220 (n_b14 g q) (by decide) 18 220 (n_b18 g q) (by decide)  (by decide) hI lx62 lx63 hO87 lx64 hO88 y105 y106 hO104 f107 hA108  _) rfl rfl hO87 rfl hl.1 rfl (Nat.le_of_ble_eq_true rfl) ⟨by decide, by decide⟩ ⟨Nat.le_of_ble_eq_true rfl, Nat.le_of_ble_eq_true rfl⟩ d_8_8_82) (fun u142 H locs hp143 V => ?_)
        obtain ⟨hI, hZ9⟩ := hp143
        obtain ⟨hu155, hZ9⟩ := hZ9
        obtain ⟨y145, hZ9⟩ := hZ9
        obtain ⟨y146, hZ9⟩ := hZ9
        obtain ⟨f147, hZ9⟩ := hZ9
        obtain ⟨hO144, hZ9⟩ := hZ9
        obtain ⟨hA148, hZ9⟩ := hZ9
        obtain ⟨b149, hZ9⟩ := hZ9
        replace hZ9 := hZ9.2
        obtain ⟨b151, hZ9⟩ := hZ9
        obtain ⟨b152, hZ9⟩ := hZ9
        obtain ⟨b153, hE154⟩ := hZ9
        replace hO144 : u142[14]? = (some (q 14, .inr (2, [.ref (q 15), .int y145, .int y146])) : Option (Nat × va_E)) := hO144
        replace hA148 : u142[15]? = (some (q 15, .inl (g 0, (220 : Int32).toNatClampNeg, .inl f147)) : Option (Nat × va_E)) := hA148
        obtain ⟨p156, e157⟩ : ∃ z, z = (F_Big_copy (220 : Int32) (220 : Int32) lx62 lx63 lx64 y105 y106 f107) := ⟨_, rfl⟩
        have e158 : y145 = p156.1 := congrArg (fun z => z.1) (hE154.trans e157.symm)
        have e159 : y146 = p156.2.1 := congrArg (fun z => z.2.1) (hE154.trans e157.symm)
        have e160 : f147 = p156.2.2 := congrArg (fun z => z.2.2) (hE154.trans e157.symm)
        replace b149 : q_F (0 ≤ y145.toInt) := b149
        replace b151 : q_F (y145.toInt ≤ 220) := b151
        replace b152 : q_F (y106.toInt ≤ y146.toInt) := b152
        replace b153 : q_F (y146.toInt ≤ y106.toInt) := b153
        replace hO104 := (hu155 _ (by decide)).trans hO104
        replace hA108 := (hu155 _ (by decide)).trans hA108
        replace hO91 := (hu155 _ (by first | exact (q_nc ne_k2_14 (q_nc ne_k2_15 List.not_mem_nil)) | (have z0 := zk2; simp only [List.mem_cons, List.not_mem_nil, or_false, not_or]; omega))).trans hO91
        replace hO92 := (hu155 _ (by first | exact (q_nc (q_nt1 ne_k2_13) (q_nc (q_nt1 ne_k2_14) List.not_mem_nil)) | (have z0 := zk2; simp only [List.mem_cons, List.not_mem_nil, or_false, not_or]; omega))).trans hO92
        replace hO101 := (hu155 _ (by decide)).trans hO101
        replace hF := q_uc hF hu155 (by first | exact (q_sk (q_mi 0 rfl) (q_sk (q_mi 1 rfl) q_s0)) | simp)
        have hR161 := (show F_Mil_power_c82 (F_Mil_power_L16 R x3 x4 t0_0 t0_1 t1_0 t2_0 t2_1 t3_0 t4_0 t4_1 t5_0 p40 fm97) R x3 x4 t0_0 t0_1 t1_0 t2_0 t2_1 t3_0 t4_0 t4_1 t5_0 p40 lx61 lx62 lx63 lx64 lx65 lx66 lx67 p115 y105 y106 f107 p156 = (F_Mil_power R x3 x4 t0_0 t0_1 t1_0 t2_0 t2_1 t3_0 t4_0 t4_1 t5_0) from Eq.trans (by have c133x := c133; rw [e132, e119, e118, e117] at c133x; have c140x := c140; rw [← e138, ← e136] at c140x; rw [e157, e119, e118, e117, F_Mil_power_c33.eq_1, if_pos c133x, if_neg c140x]) hR120)
        refine lv_aload_n hx hb d_8_8_85 rfl (lv_at hl 1 rfl) ?_
        refine q_get (ci := 4) (j := 2) (v := .ref (q 14)) C0 V i_Mil rfl rfl hO101 (by decide) w_117 rfl d_8_8_86 ?_
        refine q_goi V (q_runV (As := []) (rest := []) (d := 3) (mc := 0) (ms := 0) (ci := 2) C0 V rfl LV_Mil_85 (X_Big_bitLength l D g q u142 14 220 (n_b14 g q) (by decide)  hI y145 y146 hO144 f147 hA148  _) rfl rfl hO144 rfl hl.1 rfl (Nat.le_of_ble_eq_true rfl) ⟨by decide, by decide⟩ ⟨Nat.le_of_ble_eq_true rfl, Nat.le_of_ble_eq_true rfl⟩ d_8_8_89) (fun a168 u166 H locs hp167 V => ?_)
        obtain ⟨rfl, b169, b170, b171, hE172⟩ := hp167
        have e173 : a168 = (F_Big_bitLength (220 : Int32) y145 y146 f147) := hE172
        clear b169
        clear b170
        clear b171
        refine lv_iload_n hx hb d_8_8_92 rfl (lv_at hl 4 rfl) ?_
        refine lv_icmp_le (tgt := 98) hx hb d_8_8_93 (by decide) (fun c174 => ?_) (fun c174 => ?_)
        ·
          obtain ⟨a176, e177⟩ := q_nm (lx61 + (-1) : Int32)
          have b178 : q_F (a176.toInt = lx61.toInt + (-1)) := (by rw [← e177]; exact q_addI (y := (-1)) rfl (by decide) (by have t1 : lx66.toInt ≤ lx61.toInt + 2 := i69; have t2 : 0 ≤ lx61.toInt + lx66.toInt + 1 := i70; have t3 : lx61.toInt + lx63.toInt ≤ a57.toInt + y30.toInt := i81; have t4 : lx61.toInt + y30.toInt ≤ lx63.toInt + a57.toInt := i82; have _ := q_lo32 (x := a57); have _ := q_hi32 (x := a57); omega) (by have t1 : lx66.toInt ≤ lx61.toInt + 2 := i69; have t2 : 0 ≤ lx61.toInt + lx66.toInt + 1 := i70; have t3 : lx61.toInt + lx63.toInt ≤ a57.toInt + y30.toInt := i81; have t4 : lx61.toInt + y30.toInt ≤ lx63.toInt + a57.toInt := i82; have _ := q_lo32 (x := a57); have _ := q_hi32 (x := a57); omega))
          refine lv_iinc (v := a176) (lv' := [(4, .int a176), (0, .ref (q 9)), (1, .ref (q k2)), (2, .int x3), (3, .int x4)]) hx hb d_8_8_98 hl (k := 0) rfl (e177) (by decide) rfl (fun ls hl => ?_)
          refine lv_goto (tgt := 16) hx hb d_8_8_101 (by decide) ?_
          exact ih85 ((a176 : Int32), (y145 : Int32), (y146 : Int32), (f147 : (Nat → Int32)), (y105 : Int32), (y106 : Int32), (f107 : (Nat → Int32))) _ _ _ _ (show (a176.toInt - ((-1))).toNat < (lx61.toInt - ((-1))).toNat from by have t1 : a176.toInt = lx61.toInt + (-1) := b178; have t2 : lx66.toInt ≤ lx61.toInt + 2 := i69; have t3 : 0 ≤ lx61.toInt + lx66.toInt + 1 := i70; have t4 : 0 ≤ lx61.toInt := b100; omega) ⟨(show q_F (y145.toInt ≤ 220) from (show y145.toInt ≤ 220 from by have t1 : y145.toInt ≤ 220 := b151; omega)), (show q_F (y106.toInt ≤ a176.toInt + 2) from (show y106.toInt ≤ a176.toInt + 2 from by have t1 : 0 ≤ lx61.toInt := b100; have t2 : y106.toInt ≤ 1 := b110; have t3 : a176.toInt = lx61.toInt + (-1) := b178; omega)), (show q_F (0 ≤ a176.toInt + y106.toInt + 1) from (show 0 ≤ a176.toInt + y106.toInt + 1 from by have t1 : 0 ≤ lx61.toInt := b100; have t2 : 0 ≤ y106.toInt := b109; have t3 : a176.toInt = lx61.toInt + (-1) := b178; omega)), (show q_F (y106.toInt ≤ y145.toInt + 1) from (show y106.toInt ≤ y145.toInt + 1 from by have t1 : y106.toInt ≤ 1 := b110; have t2 : 0 ≤ y145.toInt := b149; omega)), (show q_F (0 ≤ y145.toInt + y106.toInt) from (show 0 ≤ y145.toInt + y106.toInt from by have t1 : 0 ≤ y106.toInt := b109; have t2 : 0 ≤ y145.toInt := b149; omega)), (show q_F (y106.toInt ≤ y146.toInt + 1) from (show y106.toInt ≤ y146.toInt + 1 from by have t1 : y106.toInt ≤ y146.toInt := b152; omega)), (show q_F (y146.toInt ≤ y106.toInt + 1) from (show y146.toInt ≤ y106.toInt + 1 from by have t1 : y146.toInt ≤ y106.toInt := b153; omega)), (show q_F (0 ≤ y146.toInt + y106.toInt) from (show 0 ≤ y146.toInt + y106.toInt from by have t1 : 0 ≤ y106.toInt := b109; have t2 : y106.toInt ≤ y146.toInt := b152; omega)), (show q_F (y146.toInt + y106.toInt ≤ 2) from (show y146.toInt + y106.toInt ≤ 2 from by have t1 : y106.toInt ≤ 1 := b110; have t2 : y146.toInt ≤ y106.toInt := b153; omega)), (show q_F (y106.toInt ≤ y105.toInt + 1) from (show y106.toInt ≤ y105.toInt + 1 from by have t1 : y106.toInt ≤ y105.toInt := b112; omega)), (show q_F (y105.toInt ≤ y106.toInt + 220) from (show y105.toInt ≤ y106.toInt + 220 from by have t1 : 0 ≤ y106.toInt := b109; have t2 : y105.toInt ≤ 220 := b111; omega)), (show q_F (0 ≤ y105.toInt + y106.toInt) from (show 0 ≤ y105.toInt + y106.toInt from by have t1 : 0 ≤ y106.toInt := b109; have t2 : y106.toInt ≤ y105.toInt := b112; omega)), (show q_F (y105.toInt + y106.toInt ≤ 221) from (show y105.toInt + y106.toInt ≤ 221 from by have t1 : y106.toInt ≤ 1 := b110; have t2 : y105.toInt ≤ 220 := b111; omega)), (show q_F (a176.toInt + y146.toInt ≤ a57.toInt + y30.toInt) from (show a176.toInt + y146.toInt ≤ a57.toInt + y30.toInt from by have t1 : lx66.toInt ≤ lx63.toInt + 1 := i73; have t2 : 0 ≤ lx63.toInt + lx66.toInt := i75; have t3 : lx61.toInt + lx63.toInt ≤ a57.toInt + y30.toInt := i81; have t4 : y106.toInt ≤ 1 := b110; have t5 : y146.toInt ≤ y106.toInt := b153; have t6 : a176.toInt = lx61.toInt + (-1) := b178; omega)), (show q_F (a176.toInt + y30.toInt ≤ y146.toInt + a57.toInt) from (show a176.toInt + y30.toInt ≤ y146.toInt + a57.toInt from by have t1 : lx63.toInt ≤ lx66.toInt + 1 := i74; have t2 : lx63.toInt + lx66.toInt ≤ 2 := i76; have t3 : lx61.toInt + y30.toInt ≤ lx63.toInt + a57.toInt := i82; have t4 : 0 ≤ y106.toInt := b109; have t5 : y106.toInt ≤ y146.toInt := b152; have t6 : a176.toInt = lx61.toInt + (-1) := b178; omega)), (show q_F (a176.toInt + y106.toInt ≤ a57.toInt + t2_1.toInt) from (show a176.toInt + y106.toInt ≤ a57.toInt + t2_1.toInt from by have t1 : 0 ≤ t2_1.toInt ∧ t2_1.toInt ≤ 1 := btt2_1; have t2 : lx61.toInt + lx63.toInt ≤ a57.toInt + y30.toInt := i81; have t3 : lx61.toInt + y30.toInt ≤ lx63.toInt + a57.toInt := i82; have t4 : y106.toInt ≤ 1 := b110; have t5 : a176.toInt = lx61.toInt + (-1) := b178; omega)), (show q_F (a176.toInt + t2_1.toInt ≤ y106.toInt + a57.toInt) from (show a176.toInt + t2_1.toInt ≤ y106.toInt + a57.toInt from by have t1 : 0 ≤ t2_1.toInt ∧ t2_1.toInt ≤ 1 := btt2_1; have t2 : lx61.toInt + lx63.toInt ≤ a57.toInt + y30.toInt := i81; have t3 : lx61.toInt + y30.toInt ≤ lx63.toInt + a57.toInt := i82; have t4 : 0 ≤ y106.toInt := b109; have t5 : a176.toInt = lx61.toInt + (-1) := b178; omega)), V, q_lw hl (q_lw1 0 rfl (q_lw1 1 rfl (q_lw1 2 rfl (q_lw1 3 rfl (q_lw1 4 rfl q_lw0))))), hI, hF, hO144, hA148, hO104, hA108, hO91, hO92, ⟨fm97, Nat.lt_of_lt_of_le (show (a176.toInt - ((-1))).toNat < (lx61.toInt - ((-1))).toNat from by have t1 : a176.toInt = lx61.toInt + (-1) := b178; have t2 : lx66.toInt ≤ lx61.toInt + 2 := i69; have t3 : 0 ≤ lx61.toInt + lx66.toInt + 1 := i70; have t4 : 0 ≤ lx61.toInt := b100; omega) (Nat.le_of_lt_succ hf96), (show F_Mil_power_L16 R x3 x4 t0_0 t0_1 t1_0 t2_0 t2_1 t3_0 t4_0 t4_1 t5_0 p40 fm97 a176 y145 y146 f147 y105 y106 f107 = (F_Mil_power R x3 x4 t0_0 t0_1 t1_0 t2_0 t2_1 t3_0 t4_0 t4_1 t5_0) from Eq.trans (by have c174x := c174; rw [e173, e160, e159, e158] at c174x; rw [← e177, e160, e159, e158, F_Mil_power_c82.eq_1, if_pos c174x]) hR161)⟩⟩
        ·
          refine lv_iconst (v := 0) hx hb d_8_8_96 (by decide) ?_
          exact q_retz C0 V (by decide) (⟨hI, hF, y145, y146, f147, y105, y106, f107, hO144, hA148, hO104, hA108, (show 0 ≤ (0 : Int32).toInt from (by have z12 : (0 : Int32).toInt = 0 := rfl; omega)), (show (0 : Int32).toInt ≤ 1 from (by have z12 : (0 : Int32).toInt = 0 := rfl; omega)), (show 0 ≤ y145.toInt from (by have z12 : (0 : Int32).toInt = 0 := rfl; have t1 : 0 ≤ y145.toInt := b149; omega)), (show y145.toInt ≤ 220 from (by have z12 : (0 : Int32).toInt = 0 := rfl; have t1 : y145.toInt ≤ 220 := b151; omega)), (show 0 ≤ y146.toInt from (by have z12 : (0 : Int32).toInt = 0 := rfl; have t1 : 0 ≤ y106.toInt := b109; have t2 : y106.toInt ≤ y146.toInt := b152; omega)), (show y146.toInt ≤ 1 from (by have z12 : (0 : Int32).toInt = 0 := rfl; have t1 : y106.toInt ≤ 1 := b110; have t2 : y146.toInt ≤ y106.toInt := b153; omega)), (show 0 ≤ y105.toInt from (by have z12 : (0 : Int32).toInt = 0 := rfl; have t1 : 0 ≤ y106.toInt := b109; have t2 : y106.toInt ≤ y105.toInt := b112; omega)), (show y105.toInt ≤ 220 from (by have z12 : (0 : Int32).toInt = 0 := rfl; have t1 : y105.toInt ≤ 220 := b111; omega)), (show 0 ≤ y106.toInt from (by have z12 : (0 : Int32).toInt = 0 := rfl; have t1 : 0 ≤ y106.toInt := b109; omega)), (show y106.toInt ≤ 1 from (by have z12 : (0 : Int32).toInt = 0 := rfl; have t1 : y106.toInt ≤ 1 := b110; omega)), (show ((0 : Int32), y145, y146, f147, y105, y106, f107) = (F_Mil_power R x3 x4 t0_0 t0_1 t1_0 t2_0 t2_1 t3_0 t4_0 t4_1 t5_0) from Eq.trans (by have c174x := c174; rw [e173, e160, e159, e158] at c174x; rw [e160, e159, e158, F_Mil_power_c82.eq_1, if_neg c174x]) hR161)⟩) d_8_8_97
      ·
        refine lv_aload_n hx hb d_8_8_59 rfl (lv_at hl 1 rfl) ?_
        refine q_get (ci := 4) (j := 2) (v := .ref (q 14)) C0 V i_Mil rfl rfl hO101 (by decide) w_117 rfl d_8_8_60 ?_
        refine lv_aload_n hx hb d_8_8_63 rfl (lv_at hl 1 rfl) ?_
        refine q_get (ci := 4) (j := 4) (v := .ref (q 18)) C0 V i_Mil rfl rfl hO101 (by decide) w_123 rfl d_8_8_64 ?_
        refine lv_aload_n hx hb d_8_8_67 rfl (lv_at hl 2 rfl) ?_
        refine q_gov V (q_runV (As := [.ref (q 18), .ref (q k2)]) (rest := []) (d := 3) (mc := 0) (ms := 0) (ci := 2) C0 V rfl LV_Mil_47 (X_Big_product l D g q u102 14 220 (n_b14 g q) (by decide) 18 220 (n_b18 g q) (by decide) k2 R hB2 zk2  (by decide) (by have z := ne_k2_14; omega) hI lx62 lx63 hO87 lx64 hO88 y105 y106 hO104 f107 hA108 t4_0 t4_1 hO91 t5_0 hO92  _) rfl rfl hO87 rfl hl.1 rfl (Nat.le_of_ble_eq_true rfl) ⟨by decide, by decide⟩ ⟨Nat.le_of_ble_eq_true rfl, Nat.le_of_ble_eq_true rfl⟩ d_8_8_68) (fun u181 H locs hp182 V => ?_)
        obtain ⟨hI, hZ9⟩ := hp182
        obtain ⟨hu193, hZ9⟩ := hZ9
        obtain ⟨y184, hZ9⟩ := hZ9
        obtain ⟨y185, hZ9⟩ := hZ9
        obtain ⟨f186, hZ9⟩ := hZ9
        obtain ⟨hO183, hZ9⟩ := hZ9
        obtain ⟨hA187, hZ9⟩ := hZ9
        obtain ⟨b188, hZ9⟩ := hZ9
        obtain ⟨b189, hZ9⟩ := hZ9
        obtain ⟨b190, hZ9⟩ := hZ9
        obtain ⟨b191, hE192⟩ := hZ9
        replace hO183 : u181[14]? = (some (q 14, .inr (2, [.ref (q 15), .int y184, .int y185])) : Option (Nat × va_E)) := hO183
        replace hA187 : u181[15]? = (some (q 15, .inl (g 0, (220 : Int32).toNatClampNeg, .inl f186)) : Option (Nat × va_E)) := hA187
        obtain ⟨p194, e195⟩ : ∃ z, z = (F_Big_product (220 : Int32) (220 : Int32) R lx62 lx63 lx64 y105 y106 f107 t4_0 t4_1 t5_0) := ⟨_, rfl⟩
        have e196 : y184 = p194.1 := congrArg (fun z => z.1) (hE192.trans e195.symm)
        have e197 : y185 = p194.2.1 := congrArg (fun z => z.2.1) (hE192.trans e195.symm)
        have e198 : f186 = p194.2.2 := congrArg (fun z => z.2.2) (hE192.trans e195.symm)
        replace b188 : q_F (0 ≤ y185.toInt) := b188
        replace b189 : q_F (y185.toInt ≤ 1) := b189
        replace b190 : q_F (y184.toInt ≤ 220) := b190
        replace b191 : q_F (y185.toInt ≤ y184.toInt) := b191
        replace hO104 := (hu193 _ (by decide)).trans hO104
        replace hA108 := (hu193 _ (by decide)).trans hA108
        replace hO91 := (hu193 _ (by first | exact (q_nc ne_k2_14 (q_nc ne_k2_15 List.not_mem_nil)) | (have z0 := zk2; simp only [List.mem_cons, List.not_mem_nil, or_false, not_or]; omega))).trans hO91
        replace hO92 := (hu193 _ (by first | exact (q_nc (q_nt1 ne_k2_13) (q_nc (q_nt1 ne_k2_14) List.not_mem_nil)) | (have z0 := zk2; simp only [List.mem_cons, List.not_mem_nil, or_false, not_or]; omega))).trans hO92
        replace hO101 := (hu193 _ (by decide)).trans hO101
        replace hF := q_uc hF hu193 (by first | exact (q_sk (q_mi 0 rfl) (q_sk (q_mi 1 rfl) q_s0)) | simp)
        have hR199 := (show F_Mil_power_c68 (F_Mil_power_L16 R x3 x4 t0_0 t0_1 t1_0 t2_0 t2_1 t3_0 t4_0 t4_1 t5_0 p40 fm97) R x3 x4 t0_0 t0_1 t1_0 t2_0 t2_1 t3_0 t4_0 t4_1 t5_0 p40 lx61 lx62 lx63 lx64 lx65 lx66 lx67 p115 y105 y106 f107 p194 = (F_Mil_power R x3 x4 t0_0 t0_1 t1_0 t2_0 t2_1 t3_0 t4_0 t4_1 t5_0) from Eq.trans (by have c133x := c133; rw [e132, e119, e118, e117] at c133x; have c140x := c140; rw [← e138, ← e136] at c140x; rw [e195, e119, e118, e117, F_Mil_power_c33.eq_1, if_pos c133x, if_pos c140x]) hR120)
        refine lv_goto (tgt := 85) hx hb d_8_8_71 (by decide) ?_
        refine lv_aload_n hx hb d_8_8_85 rfl (lv_at hl 1 rfl) ?_
        refine q_get (ci := 4) (j := 2) (v := .ref (q 14)) C0 V i_Mil rfl rfl hO101 (by decide) w_117 rfl d_8_8_86 ?_
        refine q_goi V (q_runV (As := []) (rest := []) (d := 3) (mc := 0) (ms := 0) (ci := 2) C0 V rfl LV_Mil_85 (X_Big_bitLength l D g q u181 14 220 (n_b14 g q) (by decide)  hI y184 y185 hO183 f186 hA187  _) rfl rfl hO183 rfl hl.1 rfl (Nat.le_of_ble_eq_true rfl) ⟨by decide, by decide⟩ ⟨Nat.le_of_ble_eq_true rfl, Nat.le_of_ble_eq_true rfl⟩ d_8_8_89) (fun a206 u204 H locs hp205 V => ?_)
        obtain ⟨rfl, b207, b208, b209, hE210⟩ := hp205
        have e211 : a206 = (F_Big_bitLength (220 : Int32) y184 y185 f186) := hE210
        clear b207
        clear b208
        clear b209
        refine lv_iload_n hx hb d_8_8_92 rfl (lv_at hl 4 rfl) ?_
        refine lv_icmp_le (tgt := 98) hx hb d_8_8_93 (by decide) (fun c212 => ?_) (fun c212 => ?_)
        ·
          obtain ⟨a214, e215⟩ := q_nm (lx61 + (-1) : Int32)
          have b216 : q_F (a214.toInt = lx61.toInt + (-1)) := (by rw [← e215]; exact q_addI (y := (-1)) rfl (by decide) (by have t1 : lx66.toInt ≤ lx61.toInt + 2 := i69; have t2 : 0 ≤ lx61.toInt + lx66.toInt + 1 := i70; have t3 : lx61.toInt + lx63.toInt ≤ a57.toInt + y30.toInt := i81; have t4 : lx61.toInt + y30.toInt ≤ lx63.toInt + a57.toInt := i82; have _ := q_lo32 (x := a57); have _ := q_hi32 (x := a57); omega) (by have t1 : lx66.toInt ≤ lx61.toInt + 2 := i69; have t2 : 0 ≤ lx61.toInt + lx66.toInt + 1 := i70; have t3 : lx61.toInt + lx63.toInt ≤ a57.toInt + y30.toInt := i81; have t4 : lx61.toInt + y30.toInt ≤ lx63.toInt + a57.toInt := i82; have _ := q_lo32 (x := a57); have _ := q_hi32 (x := a57); omega))
          refine lv_iinc (v := a214) (lv' := [(4, .int a214), (0, .ref (q 9)), (1, .ref (q k2)), (2, .int x3), (3, .int x4)]) hx hb d_8_8_98 hl (k := 0) rfl (e215) (by decide) rfl (fun ls hl => ?_)
          refine lv_goto (tgt := 16) hx hb d_8_8_101 (by decide) ?_
          exact ih85 ((a214 : Int32), (y184 : Int32), (y185 : Int32), (f186 : (Nat → Int32)), (y105 : Int32), (y106 : Int32), (f107 : (Nat → Int32))) _ _ _ _ (show (a214.toInt - ((-1))).toNat < (lx61.toInt - ((-1))).toNat from by have t1 : a214.toInt = lx61.toInt + (-1) := b216; have t2 : lx66.toInt ≤ lx61.toInt + 2 := i69; have t3 : 0 ≤ lx61.toInt + lx66.toInt + 1 := i70; have t4 : 0 ≤ lx61.toInt := b100; omega) ⟨(show q_F (y184.toInt ≤ 220) from (show y184.toInt ≤ 220 from by have t1 : y184.toInt ≤ 220 := b190; omega)), (show q_F (y106.toInt ≤ a214.toInt + 2) from (show y106.toInt ≤ a214.toInt + 2 from by have t1 : 0 ≤ lx61.toInt := b100; have t2 : y106.toInt ≤ 1 := b110; have t3 : a214.toInt = lx61.toInt + (-1) := b216; omega)), (show q_F (0 ≤ a214.toInt + y106.toInt + 1) from (show 0 ≤ a214.toInt + y106.toInt + 1 from by have t1 : 0 ≤ lx61.toInt := b100; have t2 : 0 ≤ y106.toInt := b109; have t3 : a214.toInt = lx61.toInt + (-1) := b216; omega)), (show q_F (y106.toInt ≤ y184.toInt + 1) from (show y106.toInt ≤ y184.toInt + 1 from by have t1 : y106.toInt ≤ 1 := b110; have t2 : 0 ≤ y185.toInt := b188; have t3 : y185.toInt ≤ y184.toInt := b191; omega)), (show q_F (0 ≤ y184.toInt + y106.toInt) from (show 0 ≤ y184.toInt + y106.toInt from by have t1 : 0 ≤ y106.toInt := b109; have t2 : 0 ≤ y185.toInt := b188; have t3 : y185.toInt ≤ y184.toInt := b191; omega)), (show q_F (y106.toInt ≤ y185.toInt + 1) from (show y106.toInt ≤ y185.toInt + 1 from by have t1 : y106.toInt ≤ 1 := b110; have t2 : 0 ≤ y185.toInt := b188; omega)), (show q_F (y185.toInt ≤ y106.toInt + 1) from (show y185.toInt ≤ y106.toInt + 1 from by have t1 : 0 ≤ y106.toInt := b109; have t2 : y185.toInt ≤ 1 := b189; omega)), (show q_F (0 ≤ y185.toInt + y106.toInt) from (show 0 ≤ y185.toInt + y106.toInt from by have t1 : 0 ≤ y106.toInt := b109; have t2 : 0 ≤ y185.toInt := b188; omega)), (show q_F (y185.toInt + y106.toInt ≤ 2) from (show y185.toInt + y106.toInt ≤ 2 from by have t1 : y106.toInt ≤ 1 := b110; have t2 : y185.toInt ≤ 1 := b189; omega)), (show q_F (y106.toInt ≤ y105.toInt + 1) from (show y106.toInt ≤ y105.toInt + 1 from by have t1 : y106.toInt ≤ y105.toInt := b112; omega)), (show q_F (y105.toInt ≤ y106.toInt + 220) from (show y105.toInt ≤ y106.toInt + 220 from by have t1 : 0 ≤ y106.toInt := b109; have t2 : y105.toInt ≤ 220 := b111; omega)), (show q_F (0 ≤ y105.toInt + y106.toInt) from (show 0 ≤ y105.toInt + y106.toInt from by have t1 : 0 ≤ y106.toInt := b109; have t2 : y106.toInt ≤ y105.toInt := b112; omega)), (show q_F (y105.toInt + y106.toInt ≤ 221) from (show y105.toInt + y106.toInt ≤ 221 from by have t1 : y106.toInt ≤ 1 := b110; have t2 : y105.toInt ≤ 220 := b111; omega)), (show q_F (a214.toInt + y185.toInt ≤ a57.toInt + y30.toInt) from (show a214.toInt + y185.toInt ≤ a57.toInt + y30.toInt from by have t1 : 0 ≤ y30.toInt := b35; have t2 : lx61.toInt + lx63.toInt ≤ a57.toInt + y30.toInt := i81; have t3 : lx61.toInt + y30.toInt ≤ lx63.toInt + a57.toInt := i82; have t4 : y185.toInt ≤ 1 := b189; have t5 : a214.toInt = lx61.toInt + (-1) := b216; omega)), (show q_F (a214.toInt + y30.toInt ≤ y185.toInt + a57.toInt) from (show a214.toInt + y30.toInt ≤ y185.toInt + a57.toInt from by have t1 : y30.toInt ≤ 1 := b36; have t2 : lx61.toInt + lx63.toInt ≤ a57.toInt + y30.toInt := i81; have t3 : lx61.toInt + y30.toInt ≤ lx63.toInt + a57.toInt := i82; have t4 : 0 ≤ y185.toInt := b188; have t5 : a214.toInt = lx61.toInt + (-1) := b216; omega)), (show q_F (a214.toInt + y106.toInt ≤ a57.toInt + t2_1.toInt) from (show a214.toInt + y106.toInt ≤ a57.toInt + t2_1.toInt from by have t1 : 0 ≤ t2_1.toInt ∧ t2_1.toInt ≤ 1 := btt2_1; have t2 : lx61.toInt + lx63.toInt ≤ a57.toInt + y30.toInt := i81; have t3 : lx61.toInt + y30.toInt ≤ lx63.toInt + a57.toInt := i82; have t4 : y106.toInt ≤ 1 := b110; have t5 : a214.toInt = lx61.toInt + (-1) := b216; omega)), (show q_F (a214.toInt + t2_1.toInt ≤ y106.toInt + a57.toInt) from (show a214.toInt + t2_1.toInt ≤ y106.toInt + a57.toInt from by have t1 : 0 ≤ t2_1.toInt ∧ t2_1.toInt ≤ 1 := btt2_1; have t2 : lx61.toInt + lx63.toInt ≤ a57.toInt + y30.toInt := i81; have t3 : lx61.toInt + y30.toInt ≤ lx63.toInt + a57.toInt := i82; have t4 : 0 ≤ y106.toInt := b109; have t5 : a214.toInt = lx61.toInt + (-1) := b216; omega)), V, q_lw hl (q_lw1 0 rfl (q_lw1 1 rfl (q_lw1 2 rfl (q_lw1 3 rfl (q_lw1 4 rfl q_lw0))))), hI, hF, hO183, hA187, hO104, hA108, hO91, hO92, ⟨fm97, Nat.lt_of_lt_of_le (show (a214.toInt - ((-1))).toNat < (lx61.toInt - ((-1))).toNat from by have t1 : a214.toInt = lx61.toInt + (-1) := b216; have t2 : lx66.toInt ≤ lx61.toInt + 2 := i69; have t3 : 0 ≤ lx61.toInt + lx66.toInt + 1 := i70; have t4 : 0 ≤ lx61.toInt := b100; omega) (Nat.le_of_lt_succ hf96), (show F_Mil_power_L16 R x3 x4 t0_0 t0_1 t1_0 t2_0 t2_1 t3_0 t4_0 t4_1 t5_0 p40 fm97 a214 y184 y185 f186 y105 y106 f107 = (F_Mil_power R x3 x4 t0_0 t0_1 t1_0 t2_0 t2_1 t3_0 t4_0 t4_1 t5_0) from Eq.trans (by have c212x := c212; rw [e211, e198, e197, e196] at c212x; rw [← e215, e198, e197, e196, F_Mil_power_c68.eq_1, if_pos c212x]) hR199)⟩⟩
        ·
          refine lv_iconst (v := 0) hx hb d_8_8_96 (by decide) ?_
          exact q_retz C0 V (by decide) (⟨hI, hF, y184, y185, f186, y105, y106, f107, hO183, hA187, hO104, hA108, (show 0 ≤ (0 : Int32).toInt from (by have z12 : (0 : Int32).toInt = 0 := rfl; omega)), (show (0 : Int32).toInt ≤ 1 from (by have z12 : (0 : Int32).toInt = 0 := rfl; omega)), (show 0 ≤ y184.toInt from (by have z12 : (0 : Int32).toInt = 0 := rfl; have t1 : 0 ≤ y185.toInt := b188; have t2 : y185.toInt ≤ y184.toInt := b191; omega)), (show y184.toInt ≤ 220 from (by have z12 : (0 : Int32).toInt = 0 := rfl; have t1 : y184.toInt ≤ 220 := b190; omega)), (show 0 ≤ y185.toInt from (by have z12 : (0 : Int32).toInt = 0 := rfl; have t1 : 0 ≤ y185.toInt := b188; omega)), (show y185.toInt ≤ 1 from (by have z12 : (0 : Int32).toInt = 0 := rfl; have t1 : y185.toInt ≤ 1 := b189; omega)), (show 0 ≤ y105.toInt from (by have z12 : (0 : Int32).toInt = 0 := rfl; have t1 : 0 ≤ y106.toInt := b109; have t2 : y106.toInt ≤ y105.toInt := b112; omega)), (show y105.toInt ≤ 220 from (by have z12 : (0 : Int32).toInt = 0 := rfl; have t1 : y105.toInt ≤ 220 := b111; omega)), (show 0 ≤ y106.toInt from (by have z12 : (0 : Int32).toInt = 0 := rfl; have t1 : 0 ≤ y106.toInt := b109; omega)), (show y106.toInt ≤ 1 from (by have z12 : (0 : Int32).toInt = 0 := rfl; have t1 : y106.toInt ≤ 1 := b110; omega)), (show ((0 : Int32), y184, y185, f186, y105, y106, f107) = (F_Mil_power R x3 x4 t0_0 t0_1 t1_0 t2_0 t2_1 t3_0 t4_0 t4_1 t5_0) from Eq.trans (by have c212x := c212; rw [e211, e198, e197, e196] at c212x; rw [e198, e197, e196, F_Mil_power_c68.eq_1, if_neg c212x]) hR199)⟩) d_8_8_97
    ·
      refine lv_iconst (v := 0) hx hb d_8_8_47 (by decide) ?_
      exact q_retz C0 V (by decide) (⟨hI, hF, lx62, lx63, lx64, y105, y106, f107, hO87, hO88, hO104, hA108, (show 0 ≤ (0 : Int32).toInt from (by have z12 : (0 : Int32).toInt = 0 := rfl; omega)), (show (0 : Int32).toInt ≤ 1 from (by have z12 : (0 : Int32).toInt = 0 := rfl; omega)), (show 0 ≤ lx62.toInt from (by have z12 : (0 : Int32).toInt = 0 := rfl; have t1 : lx66.toInt ≤ lx62.toInt + 1 := i71; have t2 : 0 ≤ lx62.toInt + lx66.toInt := i72; omega)), (show lx62.toInt ≤ 220 from (by have z12 : (0 : Int32).toInt = 0 := rfl; have t1 : lx62.toInt ≤ 220 := i68; omega)), (show 0 ≤ lx63.toInt from (by have z12 : (0 : Int32).toInt = 0 := rfl; have t1 : lx66.toInt ≤ lx63.toInt + 1 := i73; have t2 : 0 ≤ lx63.toInt + lx66.toInt := i75; omega)), (show lx63.toInt ≤ 1 from (by have z12 : (0 : Int32).toInt = 0 := rfl; have t1 : lx63.toInt ≤ lx66.toInt + 1 := i74; have t2 : lx63.toInt + lx66.toInt ≤ 2 := i76; omega)), (show 0 ≤ y105.toInt from (by have z12 : (0 : Int32).toInt = 0 := rfl; have t1 : 0 ≤ y106.toInt := b109; have t2 : y106.toInt ≤ y105.toInt := b112; omega)), (show y105.toInt ≤ 220 from (by have z12 : (0 : Int32).toInt = 0 := rfl; have t1 : y105.toInt ≤ 220 := b111; omega)), (show 0 ≤ y106.toInt from (by have z12 : (0 : Int32).toInt = 0 := rfl; have t1 : 0 ≤ y106.toInt := b109; omega)), (show y106.toInt ≤ 1 from (by have z12 : (0 : Int32).toInt = 0 := rfl; have t1 : y106.toInt ≤ 1 := b110; omega)), (show ((0 : Int32), lx62, lx63, lx64, y105, y106, f107) = (F_Mil_power R x3 x4 t0_0 t0_1 t1_0 t2_0 t2_1 t3_0 t4_0 t4_1 t5_0) from Eq.trans (by have c133x := c133; rw [e132, e119, e118, e117] at c133x; rw [e119, e118, e117, F_Mil_power_c33.eq_1, if_neg c133x]) hR120)⟩) d_8_8_48

