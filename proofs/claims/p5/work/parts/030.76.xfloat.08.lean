def F_Rea_decimalText_J95 (t0_0 : Int64) (t0_1 : Int64) (t0_2 : Int32) (t0_3 : Int32) (t0_4 : Int32) (t0_5 : Int32) (t0_6 : Int32) (t0_7 : Int32) (t0_8 : Int32) (t0_9 : Int64) (t1_0 : Int32) (t2_0 : (Nat → Int64)) (t3_0 : Int32) (t3_1 : Int32) (t4_0 : (Nat → Int32)) (p62 : (Int64 × Int64 × Int32 × Int32 × Int32 × Int32 × Int32 × Int32 × Int32 × Int64)) (p113 : (Int64 × Int64 × Int32 × Int32 × Int32 × Int32 × Int32 × Int32 × Int32 × Int64)) (p172 : (Int32 × Int64 × Int64 × Int32 × Int32 × Int32 × Int32 × Int32 × Int32 × Int32 × Int64 × Int32 × Int32 × (Nat → Int32))) (y146 : Int32) (y147 : Int32) (f148 : (Nat → Int32)) (lx207 : Int64) (lx208 : Int64) (lx209 : Int32) (lx210 : Int32) (lx211 : Int32) (lx212 : Int32) (lx213 : Int32) (lx214 : Int32) (lx215 : Int32) (lx216 : Int64) (lx248 : Int32) : Int32 × Int64 × Int64 × Int32 × Int32 × Int32 × Int32 × Int32 × Int32 × Int32 × Int64 × Int32 × Int32 × (Nat → Int32) := if lx214 ≤ (0 : Int32) then (((1 : Int32), ((lx212.toInt64 : Int64) - lx216 : Int64), lx208, lx209, lx210, lx211, lx212, lx213, lx214, lx215, lx216, y146, lx248, f148)) else (((2 : Int32), ((lx212.toInt64 : Int64) - lx216 : Int64), lx208, lx209, lx210, lx211, lx212, lx213, lx214, lx215, lx216, y146, lx248, f148))
def F_Rea_decimalText_J94 (t0_0 : Int64) (t0_1 : Int64) (t0_2 : Int32) (t0_3 : Int32) (t0_4 : Int32) (t0_5 : Int32) (t0_6 : Int32) (t0_7 : Int32) (t0_8 : Int32) (t0_9 : Int64) (t1_0 : Int32) (t2_0 : (Nat → Int64)) (t3_0 : Int32) (t3_1 : Int32) (t4_0 : (Nat → Int32)) (p62 : (Int64 × Int64 × Int32 × Int32 × Int32 × Int32 × Int32 × Int32 × Int32 × Int64)) (p113 : (Int64 × Int64 × Int32 × Int32 × Int32 × Int32 × Int32 × Int32 × Int32 × Int64)) (p172 : (Int32 × Int64 × Int64 × Int32 × Int32 × Int32 × Int32 × Int32 × Int32 × Int32 × Int64 × Int32 × Int32 × (Nat → Int32))) (y146 : Int32) (y147 : Int32) (f148 : (Nat → Int32)) (lx207 : Int64) (lx208 : Int64) (lx209 : Int32) (lx210 : Int32) (lx211 : Int32) (lx212 : Int32) (lx213 : Int32) (lx214 : Int32) (lx215 : Int32) (lx216 : Int64) : Int32 × Int64 × Int64 × Int32 × Int32 × Int32 × Int32 × Int32 × Int32 × Int32 × Int64 × Int32 × Int32 × (Nat → Int32) := F_Rea_decimalText_J95 t0_0 t0_1 t0_2 t0_3 t0_4 t0_5 t0_6 t0_7 t0_8 t0_9 t1_0 t2_0 t3_0 t3_1 t4_0 p62 p113 p172 y146 y147 f148 lx207 lx208 lx209 lx210 lx211 lx212 lx213 lx214 lx215 lx216 0
def F_Rea_decimalText_J50 (t0_0 : Int64) (t0_1 : Int64) (t0_2 : Int32) (t0_3 : Int32) (t0_4 : Int32) (t0_5 : Int32) (t0_6 : Int32) (t0_7 : Int32) (t0_8 : Int32) (t0_9 : Int64) (t1_0 : Int32) (t2_0 : (Nat → Int64)) (t3_0 : Int32) (t3_1 : Int32) (t4_0 : (Nat → Int32)) (p62 : (Int64 × Int64 × Int32 × Int32 × Int32 × Int32 × Int32 × Int32 × Int32 × Int64)) (p113 : (Int64 × Int64 × Int32 × Int32 × Int32 × Int32 × Int32 × Int32 × Int32 × Int64)) (p172 : (Int32 × Int64 × Int64 × Int32 × Int32 × Int32 × Int32 × Int32 × Int32 × Int32 × Int64 × Int32 × Int32 × (Nat → Int32))) (y146 : Int32) (y147 : Int32) (f148 : (Nat → Int32)) (lx207 : Int64) (lx208 : Int64) (lx209 : Int32) (lx210 : Int32) (lx211 : Int32) (lx212 : Int32) (lx213 : Int32) (lx214 : Int32) (lx215 : Int32) (lx216 : Int64) : Int32 × Int64 × Int64 × Int32 × Int32 × Int32 × Int32 × Int32 × Int32 × Int32 × Int64 × Int32 × Int32 × (Nat → Int32) := if lx210 ≤ lx209 then (if lx211 = (0 : Int32) then (F_Rea_decimalText_J94 t0_0 t0_1 t0_2 t0_3 t0_4 t0_5 t0_6 t0_7 t0_8 t0_9 t1_0 t2_0 t3_0 t3_1 t4_0 p62 p113 p172 y146 y147 f148 lx207 lx208 lx209 lx210 lx211 lx212 lx213 lx214 lx215 lx216) else (if y146 ≤ (0 : Int32) then (F_Rea_decimalText_J94 t0_0 t0_1 t0_2 t0_3 t0_4 t0_5 t0_6 t0_7 t0_8 t0_9 t1_0 t2_0 t3_0 t3_1 t4_0 p62 p113 p172 y146 y147 f148 lx207 lx208 lx209 lx210 lx211 lx212 lx213 lx214 lx215 lx216) else (F_Rea_decimalText_J95 t0_0 t0_1 t0_2 t0_3 t0_4 t0_5 t0_6 t0_7 t0_8 t0_9 t1_0 t2_0 t3_0 t3_1 t4_0 p62 p113 p172 y146 y147 f148 lx207 lx208 lx209 lx210 lx211 lx212 lx213 lx214 lx215 lx216 1))) else (((0 : Int32), lx207, lx208, lx209, lx210, lx211, lx212, lx213, lx214, lx215, lx216, y146, y147, f148))
def F_Rea_decimalText_c42 (t0_0 : Int64) (t0_1 : Int64) (t0_2 : Int32) (t0_3 : Int32) (t0_4 : Int32) (t0_5 : Int32) (t0_6 : Int32) (t0_7 : Int32) (t0_8 : Int32) (t0_9 : Int64) (t1_0 : Int32) (t2_0 : (Nat → Int64)) (t3_0 : Int32) (t3_1 : Int32) (t4_0 : (Nat → Int32)) (p62 : (Int64 × Int64 × Int32 × Int32 × Int32 × Int32 × Int32 × Int32 × Int32 × Int64)) (p113 : (Int64 × Int64 × Int32 × Int32 × Int32 × Int32 × Int32 × Int32 × Int32 × Int64)) (p172 : (Int32 × Int64 × Int64 × Int32 × Int32 × Int32 × Int32 × Int32 × Int32 × Int32 × Int64 × Int32 × Int32 × (Nat → Int32))) (y146 : Int32) (y147 : Int32) (f148 : (Nat → Int32)) (p333 : (Int32 × Int64 × Int64 × Int32 × Int32 × Int32 × Int32 × Int32 × Int32 × Int32 × Int64)) : Int32 × Int64 × Int64 × Int32 × Int32 × Int32 × Int32 × Int32 × Int32 × Int32 × Int64 × Int32 × Int32 × (Nat → Int32) := if (p333.1 : Int32) = (0 : Int32) then (((0 : Int32), (p333.2.1 : Int64), (p333.2.2.1 : Int64), (p333.2.2.2.1 : Int32), (p333.2.2.2.2.1 : Int32), (p333.2.2.2.2.2.1 : Int32), (p333.2.2.2.2.2.2.1 : Int32), (p333.2.2.2.2.2.2.2.1 : Int32), (p333.2.2.2.2.2.2.2.2.1 : Int32), (p333.2.2.2.2.2.2.2.2.2.1 : Int32), (p333.2.2.2.2.2.2.2.2.2.2 : Int64), y146, y147, f148)) else (F_Rea_decimalText_J50 t0_0 t0_1 t0_2 t0_3 t0_4 t0_5 t0_6 t0_7 t0_8 t0_9 t1_0 t2_0 t3_0 t3_1 t4_0 p62 p113 p172 y146 y147 f148 (p333.2.1 : Int64) (p333.2.2.1 : Int64) (p333.2.2.2.1 : Int32) (p333.2.2.2.2.1 : Int32) (p333.2.2.2.2.2.1 : Int32) (p333.2.2.2.2.2.2.1 : Int32) (p333.2.2.2.2.2.2.2.1 : Int32) (p333.2.2.2.2.2.2.2.2.1 : Int32) (p333.2.2.2.2.2.2.2.2.2.1 : Int32) (p333.2.2.2.2.2.2.2.2.2.2 : Int64))
def F_Rea_decimalText_c14 (t0_0 : Int64) (t0_1 : Int64) (t0_2 : Int32) (t0_3 : Int32) (t0_4 : Int32) (t0_5 : Int32) (t0_6 : Int32) (t0_7 : Int32) (t0_8 : Int32) (t0_9 : Int64) (t1_0 : Int32) (t2_0 : (Nat → Int64)) (t3_0 : Int32) (t3_1 : Int32) (t4_0 : (Nat → Int32)) (p62 : (Int64 × Int64 × Int32 × Int32 × Int32 × Int32 × Int32 × Int32 × Int32 × Int64)) (p113 : (Int64 × Int64 × Int32 × Int32 × Int32 × Int32 × Int32 × Int32 × Int32 × Int64)) (p172 : (Int32 × Int64 × Int64 × Int32 × Int32 × Int32 × Int32 × Int32 × Int32 × Int32 × Int64 × Int32 × Int32 × (Nat → Int32))) : Int32 × Int64 × Int64 × Int32 × Int32 × Int32 × Int32 × Int32 × Int32 × Int32 × Int64 × Int32 × Int32 × (Nat → Int32) := if (p172.1 : Int32) = (0 : Int32) then (((0 : Int32), (p172.2.1 : Int64), (p172.2.2.1 : Int64), (p172.2.2.2.1 : Int32), (p172.2.2.2.2.1 : Int32), (p172.2.2.2.2.2.1 : Int32), (p172.2.2.2.2.2.2.1 : Int32), (p172.2.2.2.2.2.2.2.1 : Int32), (p172.2.2.2.2.2.2.2.2.1 : Int32), (p172.2.2.2.2.2.2.2.2.2.1 : Int32), (p172.2.2.2.2.2.2.2.2.2.2.1 : Int64), (p172.2.2.2.2.2.2.2.2.2.2.2.1 : Int32), (p172.2.2.2.2.2.2.2.2.2.2.2.2.1 : Int32), (p172.2.2.2.2.2.2.2.2.2.2.2.2.2 : (Nat → Int32)))) else (if (((F_Rea_here (p172.2.1 : Int64) (p172.2.2.1 : Int64) (p172.2.2.2.1 : Int32) (p172.2.2.2.2.1 : Int32) (p172.2.2.2.2.2.1 : Int32) (p172.2.2.2.2.2.2.1 : Int32) (p172.2.2.2.2.2.2.2.1 : Int32) (p172.2.2.2.2.2.2.2.2.1 : Int32) (p172.2.2.2.2.2.2.2.2.2.1 : Int32) (0 : Int64) t1_0 t2_0) : Int32) ||| 32 : Int32) = (101 : Int32) then (F_Rea_decimalText_c42 t0_0 t0_1 t0_2 t0_3 t0_4 t0_5 t0_6 t0_7 t0_8 t0_9 t1_0 t2_0 t3_0 t3_1 t4_0 p62 p113 p172 (p172.2.2.2.2.2.2.2.2.2.2.2.1 : Int32) (p172.2.2.2.2.2.2.2.2.2.2.2.2.1 : Int32) (p172.2.2.2.2.2.2.2.2.2.2.2.2.2 : (Nat → Int32)) ((F_Rea_takeExponent (10 : Int32) (p172.2.1 : Int64) (p172.2.2.1 : Int64) (p172.2.2.2.1 : Int32) (p172.2.2.2.2.1 : Int32) (p172.2.2.2.2.2.1 : Int32) (p172.2.2.2.2.2.2.1 : Int32) (p172.2.2.2.2.2.2.2.1 : Int32) (p172.2.2.2.2.2.2.2.2.1 : Int32) (p172.2.2.2.2.2.2.2.2.2.1 : Int32) (0 : Int64) t1_0 t2_0) : (Int32 × Int64 × Int64 × Int32 × Int32 × Int32 × Int32 × Int32 × Int32 × Int32 × Int64))) else (F_Rea_decimalText_J50 t0_0 t0_1 t0_2 t0_3 t0_4 t0_5 t0_6 t0_7 t0_8 t0_9 t1_0 t2_0 t3_0 t3_1 t4_0 p62 p113 p172 (p172.2.2.2.2.2.2.2.2.2.2.2.1 : Int32) (p172.2.2.2.2.2.2.2.2.2.2.2.2.1 : Int32) (p172.2.2.2.2.2.2.2.2.2.2.2.2.2 : (Nat → Int32)) (p172.2.1 : Int64) (p172.2.2.1 : Int64) (p172.2.2.2.1 : Int32) (p172.2.2.2.2.1 : Int32) (p172.2.2.2.2.2.1 : Int32) (p172.2.2.2.2.2.2.1 : Int32) (p172.2.2.2.2.2.2.2.1 : Int32) (p172.2.2.2.2.2.2.2.2.1 : Int32) (p172.2.2.2.2.2.2.2.2.2.1 : Int32) 0))
def F_Rea_decimalText_c5 (t0_0 : Int64) (t0_1 : Int64) (t0_2 : Int32) (t0_3 : Int32) (t0_4 : Int32) (t0_5 : Int32) (t0_6 : Int32) (t0_7 : Int32) (t0_8 : Int32) (t0_9 : Int64) (t1_0 : Int32) (t2_0 : (Nat → Int64)) (t3_0 : Int32) (t3_1 : Int32) (t4_0 : (Nat → Int32)) (p62 : (Int64 × Int64 × Int32 × Int32 × Int32 × Int32 × Int32 × Int32 × Int32 × Int64)) (p113 : (Int64 × Int64 × Int32 × Int32 × Int32 × Int32 × Int32 × Int32 × Int32 × Int64)) : Int32 × Int64 × Int64 × Int32 × Int32 × Int32 × Int32 × Int32 × Int32 × Int32 × Int64 × Int32 × Int32 × (Nat → Int32) := F_Rea_decimalText_c14 t0_0 t0_1 t0_2 t0_3 t0_4 t0_5 t0_6 t0_7 t0_8 t0_9 t1_0 t2_0 t3_0 t3_1 t4_0 p62 p113 ((F_Rea_takeFigures (10 : Int32) (1000 : Int32) (p113.1 : Int64) (p113.2.1 : Int64) (p113.2.2.1 : Int32) (p113.2.2.2.1 : Int32) (p113.2.2.2.2.1 : Int32) (p113.2.2.2.2.2.1 : Int32) (p113.2.2.2.2.2.2.1 : Int32) (p113.2.2.2.2.2.2.2.1 : Int32) (p113.2.2.2.2.2.2.2.2.1 : Int32) (p113.2.2.2.2.2.2.2.2.2 : Int64) t1_0 t2_0 t3_0 t3_1 t4_0) : (Int32 × Int64 × Int64 × Int32 × Int32 × Int32 × Int32 × Int32 × Int32 × Int32 × Int64 × Int32 × Int32 × (Nat → Int32)))
def F_Rea_decimalText_c1 (t0_0 : Int64) (t0_1 : Int64) (t0_2 : Int32) (t0_3 : Int32) (t0_4 : Int32) (t0_5 : Int32) (t0_6 : Int32) (t0_7 : Int32) (t0_8 : Int32) (t0_9 : Int64) (t1_0 : Int32) (t2_0 : (Nat → Int64)) (t3_0 : Int32) (t3_1 : Int32) (t4_0 : (Nat → Int32)) (p62 : (Int64 × Int64 × Int32 × Int32 × Int32 × Int32 × Int32 × Int32 × Int32 × Int64)) : Int32 × Int64 × Int64 × Int32 × Int32 × Int32 × Int32 × Int32 × Int32 × Int32 × Int64 × Int32 × Int32 × (Nat → Int32) := F_Rea_decimalText_c5 t0_0 t0_1 t0_2 t0_3 t0_4 t0_5 t0_6 t0_7 t0_8 t0_9 t1_0 t2_0 t3_0 t3_1 t4_0 p62 ((F_Rea_takeSign (p62.1 : Int64) (p62.2.1 : Int64) (p62.2.2.1 : Int32) (p62.2.2.2.1 : Int32) (p62.2.2.2.2.1 : Int32) (p62.2.2.2.2.2.1 : Int32) (p62.2.2.2.2.2.2.1 : Int32) (p62.2.2.2.2.2.2.2.1 : Int32) (p62.2.2.2.2.2.2.2.2.1 : Int32) (p62.2.2.2.2.2.2.2.2.2 : Int64) t1_0 t2_0) : (Int64 × Int64 × Int32 × Int32 × Int32 × Int32 × Int32 × Int32 × Int32 × Int64))
def F_Rea_decimalText (t0_0 : Int64) (t0_1 : Int64) (t0_2 : Int32) (t0_3 : Int32) (t0_4 : Int32) (t0_5 : Int32) (t0_6 : Int32) (t0_7 : Int32) (t0_8 : Int32) (t0_9 : Int64) (t1_0 : Int32) (t2_0 : (Nat → Int64)) (t3_0 : Int32) (t3_1 : Int32) (t4_0 : (Nat → Int32)) : Int32 × Int64 × Int64 × Int32 × Int32 × Int32 × Int32 × Int32 × Int32 × Int32 × Int64 × Int32 × Int32 × (Nat → Int32) := F_Rea_decimalText_c1 t0_0 t0_1 t0_2 t0_3 t0_4 t0_5 t0_6 t0_7 t0_8 t0_9 t1_0 t2_0 t3_0 t3_1 t4_0 ((F_Rea_begin t0_0 t0_1 t0_2 t0_3 t0_4 t0_5 t0_6 t0_7 t0_8 t0_9 t1_0 t2_0) : (Int64 × Int64 × Int32 × Int32 × Int32 × Int32 × Int32 × Int32 × Int32 × Int64))
def S_Rea_decimalText_J95 (t0_0 : Int64) (t0_1 : Int64) (t0_2 : Int32) (t0_3 : Int32) (t0_4 : Int32) (t0_5 : Int32) (t0_6 : Int32) (t0_7 : Int32) (t0_8 : Int32) (t0_9 : Int64) (t1_0 : Int32) (t2_0 : (Nat → Int64)) (t3_0 : Int32) (t3_1 : Int32) (t4_0 : (Nat → Int32)) (p62 : (Int64 × Int64 × Int32 × Int32 × Int32 × Int32 × Int32 × Int32 × Int32 × Int64)) (p113 : (Int64 × Int64 × Int32 × Int32 × Int32 × Int32 × Int32 × Int32 × Int32 × Int64)) (p172 : (Int32 × Int64 × Int64 × Int32 × Int32 × Int32 × Int32 × Int32 × Int32 × Int32 × Int64 × Int32 × Int32 × (Nat → Int32))) (y146 : Int32) (y147 : Int32) (f148 : (Nat → Int32)) (lx207 : Int64) (lx208 : Int64) (lx209 : Int32) (lx210 : Int32) (lx211 : Int32) (lx212 : Int32) (lx213 : Int32) (lx214 : Int32) (lx215 : Int32) (lx216 : Int64) (lx248 : Int32) : Prop := (y146.toInt ≤ 220) ∧ (if lx214 ≤ (0 : Int32) then (True) else (True))
def S_Rea_decimalText_J94 (t0_0 : Int64) (t0_1 : Int64) (t0_2 : Int32) (t0_3 : Int32) (t0_4 : Int32) (t0_5 : Int32) (t0_6 : Int32) (t0_7 : Int32) (t0_8 : Int32) (t0_9 : Int64) (t1_0 : Int32) (t2_0 : (Nat → Int64)) (t3_0 : Int32) (t3_1 : Int32) (t4_0 : (Nat → Int32)) (p62 : (Int64 × Int64 × Int32 × Int32 × Int32 × Int32 × Int32 × Int32 × Int32 × Int64)) (p113 : (Int64 × Int64 × Int32 × Int32 × Int32 × Int32 × Int32 × Int32 × Int32 × Int64)) (p172 : (Int32 × Int64 × Int64 × Int32 × Int32 × Int32 × Int32 × Int32 × Int32 × Int32 × Int64 × Int32 × Int32 × (Nat → Int32))) (y146 : Int32) (y147 : Int32) (f148 : (Nat → Int32)) (lx207 : Int64) (lx208 : Int64) (lx209 : Int32) (lx210 : Int32) (lx211 : Int32) (lx212 : Int32) (lx213 : Int32) (lx214 : Int32) (lx215 : Int32) (lx216 : Int64) : Prop := S_Rea_decimalText_J95 t0_0 t0_1 t0_2 t0_3 t0_4 t0_5 t0_6 t0_7 t0_8 t0_9 t1_0 t2_0 t3_0 t3_1 t4_0 p62 p113 p172 y146 y147 f148 lx207 lx208 lx209 lx210 lx211 lx212 lx213 lx214 lx215 lx216 0
def S_Rea_decimalText_J50 (t0_0 : Int64) (t0_1 : Int64) (t0_2 : Int32) (t0_3 : Int32) (t0_4 : Int32) (t0_5 : Int32) (t0_6 : Int32) (t0_7 : Int32) (t0_8 : Int32) (t0_9 : Int64) (t1_0 : Int32) (t2_0 : (Nat → Int64)) (t3_0 : Int32) (t3_1 : Int32) (t4_0 : (Nat → Int32)) (p62 : (Int64 × Int64 × Int32 × Int32 × Int32 × Int32 × Int32 × Int32 × Int32 × Int64)) (p113 : (Int64 × Int64 × Int32 × Int32 × Int32 × Int32 × Int32 × Int32 × Int32 × Int64)) (p172 : (Int32 × Int64 × Int64 × Int32 × Int32 × Int32 × Int32 × Int32 × Int32 × Int32 × Int64 × Int32 × Int32 × (Nat → Int32))) (y146 : Int32) (y147 : Int32) (f148 : (Nat → Int32)) (lx207 : Int64) (lx208 : Int64) (lx209 : Int32) (lx210 : Int32) (lx211 : Int32) (lx212 : Int32) (lx213 : Int32) (lx214 : Int32) (lx215 : Int32) (lx216 : Int64) : Prop := if lx210 ≤ lx209 then (if lx211 = (0 : Int32) then (S_Rea_decimalText_J94 t0_0 t0_1 t0_2 t0_3 t0_4 t0_5 t0_6 t0_7 t0_8 t0_9 t1_0 t2_0 t3_0 t3_1 t4_0 p62 p113 p172 y146 y147 f148 lx207 lx208 lx209 lx210 lx211 lx212 lx213 lx214 lx215 lx216) else (if y146 ≤ (0 : Int32) then (S_Rea_decimalText_J94 t0_0 t0_1 t0_2 t0_3 t0_4 t0_5 t0_6 t0_7 t0_8 t0_9 t1_0 t2_0 t3_0 t3_1 t4_0 p62 p113 p172 y146 y147 f148 lx207 lx208 lx209 lx210 lx211 lx212 lx213 lx214 lx215 lx216) else (S_Rea_decimalText_J95 t0_0 t0_1 t0_2 t0_3 t0_4 t0_5 t0_6 t0_7 t0_8 t0_9 t1_0 t2_0 t3_0 t3_1 t4_0 p62 p113 p172 y146 y147 f148 lx207 lx208 lx209 lx210 lx211 lx212 lx213 lx214 lx215 lx216 1))) else (True)
def S_Rea_decimalText_c42 (t0_0 : Int64) (t0_1 : Int64) (t0_2 : Int32) (t0_3 : Int32) (t0_4 : Int32) (t0_5 : Int32) (t0_6 : Int32) (t0_7 : Int32) (t0_8 : Int32) (t0_9 : Int64) (t1_0 : Int32) (t2_0 : (Nat → Int64)) (t3_0 : Int32) (t3_1 : Int32) (t4_0 : (Nat → Int32)) (p62 : (Int64 × Int64 × Int32 × Int32 × Int32 × Int32 × Int32 × Int32 × Int32 × Int64)) (p113 : (Int64 × Int64 × Int32 × Int32 × Int32 × Int32 × Int32 × Int32 × Int32 × Int64)) (p172 : (Int32 × Int64 × Int64 × Int32 × Int32 × Int32 × Int32 × Int32 × Int32 × Int32 × Int64 × Int32 × Int32 × (Nat → Int32))) (y146 : Int32) (y147 : Int32) (f148 : (Nat → Int32)) (p333 : (Int32 × Int64 × Int64 × Int32 × Int32 × Int32 × Int32 × Int32 × Int32 × Int32 × Int64)) : Prop := if (p333.1 : Int32) = (0 : Int32) then (True) else (S_Rea_decimalText_J50 t0_0 t0_1 t0_2 t0_3 t0_4 t0_5 t0_6 t0_7 t0_8 t0_9 t1_0 t2_0 t3_0 t3_1 t4_0 p62 p113 p172 y146 y147 f148 (p333.2.1 : Int64) (p333.2.2.1 : Int64) (p333.2.2.2.1 : Int32) (p333.2.2.2.2.1 : Int32) (p333.2.2.2.2.2.1 : Int32) (p333.2.2.2.2.2.2.1 : Int32) (p333.2.2.2.2.2.2.2.1 : Int32) (p333.2.2.2.2.2.2.2.2.1 : Int32) (p333.2.2.2.2.2.2.2.2.2.1 : Int32) (p333.2.2.2.2.2.2.2.2.2.2 : Int64))
def S_Rea_decimalText_c14 (t0_0 : Int64) (t0_1 : Int64) (t0_2 : Int32) (t0_3 : Int32) (t0_4 : Int32) (t0_5 : Int32) (t0_6 : Int32) (t0_7 : Int32) (t0_8 : Int32) (t0_9 : Int64) (t1_0 : Int32) (t2_0 : (Nat → Int64)) (t3_0 : Int32) (t3_1 : Int32) (t4_0 : (Nat → Int32)) (p62 : (Int64 × Int64 × Int32 × Int32 × Int32 × Int32 × Int32 × Int32 × Int32 × Int64)) (p113 : (Int64 × Int64 × Int32 × Int32 × Int32 × Int32 × Int32 × Int32 × Int32 × Int64)) (p172 : (Int32 × Int64 × Int64 × Int32 × Int32 × Int32 × Int32 × Int32 × Int32 × Int32 × Int64 × Int32 × Int32 × (Nat → Int32))) : Prop := if (p172.1 : Int32) = (0 : Int32) then (True) else ((True ∧ S_Rea_here (p172.2.1 : Int64) (p172.2.2.1 : Int64) (p172.2.2.2.1 : Int32) (p172.2.2.2.2.1 : Int32) (p172.2.2.2.2.2.1 : Int32) (p172.2.2.2.2.2.2.1 : Int32) (p172.2.2.2.2.2.2.2.1 : Int32) (p172.2.2.2.2.2.2.2.2.1 : Int32) (p172.2.2.2.2.2.2.2.2.2.1 : Int32) (0 : Int64) t1_0 t2_0) ∧ (if (((F_Rea_here (p172.2.1 : Int64) (p172.2.2.1 : Int64) (p172.2.2.2.1 : Int32) (p172.2.2.2.2.1 : Int32) (p172.2.2.2.2.2.1 : Int32) (p172.2.2.2.2.2.2.1 : Int32) (p172.2.2.2.2.2.2.2.1 : Int32) (p172.2.2.2.2.2.2.2.2.1 : Int32) (p172.2.2.2.2.2.2.2.2.2.1 : Int32) (0 : Int64) t1_0 t2_0) : Int32) ||| 32 : Int32) = (101 : Int32) then ((True ∧ S_Rea_takeExponent (10 : Int32) (p172.2.1 : Int64) (p172.2.2.1 : Int64) (p172.2.2.2.1 : Int32) (p172.2.2.2.2.1 : Int32) (p172.2.2.2.2.2.1 : Int32) (p172.2.2.2.2.2.2.1 : Int32) (p172.2.2.2.2.2.2.2.1 : Int32) (p172.2.2.2.2.2.2.2.2.1 : Int32) (p172.2.2.2.2.2.2.2.2.2.1 : Int32) (0 : Int64) t1_0 t2_0) ∧ (S_Rea_decimalText_c42 t0_0 t0_1 t0_2 t0_3 t0_4 t0_5 t0_6 t0_7 t0_8 t0_9 t1_0 t2_0 t3_0 t3_1 t4_0 p62 p113 p172 (p172.2.2.2.2.2.2.2.2.2.2.2.1 : Int32) (p172.2.2.2.2.2.2.2.2.2.2.2.2.1 : Int32) (p172.2.2.2.2.2.2.2.2.2.2.2.2.2 : (Nat → Int32)) ((F_Rea_takeExponent (10 : Int32) (p172.2.1 : Int64) (p172.2.2.1 : Int64) (p172.2.2.2.1 : Int32) (p172.2.2.2.2.1 : Int32) (p172.2.2.2.2.2.1 : Int32) (p172.2.2.2.2.2.2.1 : Int32) (p172.2.2.2.2.2.2.2.1 : Int32) (p172.2.2.2.2.2.2.2.2.1 : Int32) (p172.2.2.2.2.2.2.2.2.2.1 : Int32) (0 : Int64) t1_0 t2_0) : (Int32 × Int64 × Int64 × Int32 × Int32 × Int32 × Int32 × Int32 × Int32 × Int32 × Int64)))) else (S_Rea_decimalText_J50 t0_0 t0_1 t0_2 t0_3 t0_4 t0_5 t0_6 t0_7 t0_8 t0_9 t1_0 t2_0 t3_0 t3_1 t4_0 p62 p113 p172 (p172.2.2.2.2.2.2.2.2.2.2.2.1 : Int32) (p172.2.2.2.2.2.2.2.2.2.2.2.2.1 : Int32) (p172.2.2.2.2.2.2.2.2.2.2.2.2.2 : (Nat → Int32)) (p172.2.1 : Int64) (p172.2.2.1 : Int64) (p172.2.2.2.1 : Int32) (p172.2.2.2.2.1 : Int32) (p172.2.2.2.2.2.1 : Int32) (p172.2.2.2.2.2.2.1 : Int32) (p172.2.2.2.2.2.2.2.1 : Int32) (p172.2.2.2.2.2.2.2.2.1 : Int32) (p172.2.2.2.2.2.2.2.2.2.1 : Int32) 0)))
def S_Rea_decimalText_c5 (t0_0 : Int64) (t0_1 : Int64) (t0_2 : Int32) (t0_3 : Int32) (t0_4 : Int32) (t0_5 : Int32) (t0_6 : Int32) (t0_7 : Int32) (t0_8 : Int32) (t0_9 : Int64) (t1_0 : Int32) (t2_0 : (Nat → Int64)) (t3_0 : Int32) (t3_1 : Int32) (t4_0 : (Nat → Int32)) (p62 : (Int64 × Int64 × Int32 × Int32 × Int32 × Int32 × Int32 × Int32 × Int32 × Int64)) (p113 : (Int64 × Int64 × Int32 × Int32 × Int32 × Int32 × Int32 × Int32 × Int32 × Int64)) : Prop := (True ∧ S_Rea_takeFigures (10 : Int32) (1000 : Int32) (p113.1 : Int64) (p113.2.1 : Int64) (p113.2.2.1 : Int32) (p113.2.2.2.1 : Int32) (p113.2.2.2.2.1 : Int32) (p113.2.2.2.2.2.1 : Int32) (p113.2.2.2.2.2.2.1 : Int32) (p113.2.2.2.2.2.2.2.1 : Int32) (p113.2.2.2.2.2.2.2.2.1 : Int32) (p113.2.2.2.2.2.2.2.2.2 : Int64) t1_0 t2_0 t3_0 t3_1 t4_0) ∧ (S_Rea_decimalText_c14 t0_0 t0_1 t0_2 t0_3 t0_4 t0_5 t0_6 t0_7 t0_8 t0_9 t1_0 t2_0 t3_0 t3_1 t4_0 p62 p113 ((F_Rea_takeFigures (10 : Int32) (1000 : Int32) (p113.1 : Int64) (p113.2.1 : Int64) (p113.2.2.1 : Int32) (p113.2.2.2.1 : Int32) (p113.2.2.2.2.1 : Int32) (p113.2.2.2.2.2.1 : Int32) (p113.2.2.2.2.2.2.1 : Int32) (p113.2.2.2.2.2.2.2.1 : Int32) (p113.2.2.2.2.2.2.2.2.1 : Int32) (p113.2.2.2.2.2.2.2.2.2 : Int64) t1_0 t2_0 t3_0 t3_1 t4_0) : (Int32 × Int64 × Int64 × Int32 × Int32 × Int32 × Int32 × Int32 × Int32 × Int32 × Int64 × Int32 × Int32 × (Nat → Int32))))
def S_Rea_decimalText_c1 (t0_0 : Int64) (t0_1 : Int64) (t0_2 : Int32) (t0_3 : Int32) (t0_4 : Int32) (t0_5 : Int32) (t0_6 : Int32) (t0_7 : Int32) (t0_8 : Int32) (t0_9 : Int64) (t1_0 : Int32) (t2_0 : (Nat → Int64)) (t3_0 : Int32) (t3_1 : Int32) (t4_0 : (Nat → Int32)) (p62 : (Int64 × Int64 × Int32 × Int32 × Int32 × Int32 × Int32 × Int32 × Int32 × Int64)) : Prop := (True ∧ S_Rea_takeSign (p62.1 : Int64) (p62.2.1 : Int64) (p62.2.2.1 : Int32) (p62.2.2.2.1 : Int32) (p62.2.2.2.2.1 : Int32) (p62.2.2.2.2.2.1 : Int32) (p62.2.2.2.2.2.2.1 : Int32) (p62.2.2.2.2.2.2.2.1 : Int32) (p62.2.2.2.2.2.2.2.2.1 : Int32) (p62.2.2.2.2.2.2.2.2.2 : Int64) t1_0 t2_0) ∧ (S_Rea_decimalText_c5 t0_0 t0_1 t0_2 t0_3 t0_4 t0_5 t0_6 t0_7 t0_8 t0_9 t1_0 t2_0 t3_0 t3_1 t4_0 p62 ((F_Rea_takeSign (p62.1 : Int64) (p62.2.1 : Int64) (p62.2.2.1 : Int32) (p62.2.2.2.1 : Int32) (p62.2.2.2.2.1 : Int32) (p62.2.2.2.2.2.1 : Int32) (p62.2.2.2.2.2.2.1 : Int32) (p62.2.2.2.2.2.2.2.1 : Int32) (p62.2.2.2.2.2.2.2.2.1 : Int32) (p62.2.2.2.2.2.2.2.2.2 : Int64) t1_0 t2_0) : (Int64 × Int64 × Int32 × Int32 × Int32 × Int32 × Int32 × Int32 × Int32 × Int64)))
def S_Rea_decimalText (t0_0 : Int64) (t0_1 : Int64) (t0_2 : Int32) (t0_3 : Int32) (t0_4 : Int32) (t0_5 : Int32) (t0_6 : Int32) (t0_7 : Int32) (t0_8 : Int32) (t0_9 : Int64) (t1_0 : Int32) (t2_0 : (Nat → Int64)) (t3_0 : Int32) (t3_1 : Int32) (t4_0 : (Nat → Int32)) : Prop := S_Rea_decimalText_c1 t0_0 t0_1 t0_2 t0_3 t0_4 t0_5 t0_6 t0_7 t0_8 t0_9 t1_0 t2_0 t3_0 t3_1 t4_0 ((F_Rea_begin t0_0 t0_1 t0_2 t0_3 t0_4 t0_5 t0_6 t0_7 t0_8 t0_9 t1_0 t2_0) : (Int64 × Int64 × Int32 × Int32 × Int32 × Int32 × Int32 × Int32 × Int32 × Int64))
set_option maxRecDepth 100000 in
set_option maxHeartbeats 4000000 in
theorem X_Rea_decimalText (l : Launch) (D : va_G) (g : Nat → ClassId) (q : Nat → Nat) (ws : va_W) (hI : q_I (nsh g q) q ws) (t0_0 : Int64) (t0_1 : Int64) (t0_2 : Int32) (t0_3 : Int32) (t0_4 : Int32) (t0_5 : Int32) (t0_6 : Int32) (t0_7 : Int32) (t0_8 : Int32) (t0_9 : Int64) (hT0 : ws[38]? = (some (q 38, .inr (8, [.long t0_0, .long t0_1, .ref (q 1), .ref (q 9), .int t0_2, .int t0_3, .int t0_4, .int t0_5, .int t0_6, .int t0_7, .int t0_8, .long t0_9])) : Option (Nat × va_E))) (t1_0 : Int32) (hT1 : ws[1]? = (some (q 1, .inr (1, [.ref (q 2), .int 4100, .int t1_0])) : Option (Nat × va_E))) (t2_0 : (Nat → Int64)) (hT2 : ws[2]? = (some (q 2, .inl (g 1, (513 : Int32).toNatClampNeg, .inr (.inl t2_0))) : Option (Nat × va_E))) (t3_0 : Int32) (t3_1 : Int32) (hT3 : ws[10]? = (some (q 10, .inr (2, [.ref (q 11), .int t3_0, .int t3_1])) : Option (Nat × va_E))) (t4_0 : (Nat → Int32)) (hT4 : ws[11]? = (some (q 11, .inl (g 0, (220 : Int32).toNatClampNeg, .inl t4_0)) : Option (Nat × va_E))) (hS : True ∧ S_Rea_decimalText t0_0 t0_1 t0_2 t0_3 t0_4 t0_5 t0_6 t0_7 t0_8 t0_9 t1_0 t2_0 t3_0 t3_1 t4_0) : q_mI l y_Rea_decimalText prog_10_method_3_code 1 (.int) 5 0 0 D g [.ref (q 38)] ws (fun r u => q_I (nsh g q) q u ∧ q_un ws u [10, 11, 38] ∧ ∃ (u0_0 : Int64) (u0_1 : Int64) (u0_2 : Int32) (u0_3 : Int32) (u0_4 : Int32) (u0_5 : Int32) (u0_6 : Int32) (u0_7 : Int32) (u0_8 : Int32) (u0_9 : Int64) (u3_0 : Int32) (u3_1 : Int32) (u4_0 : (Nat → Int32)), u[38]? = (some (q 38, .inr (8, [.long u0_0, .long u0_1, .ref (q 1), .ref (q 9), .int u0_2, .int u0_3, .int u0_4, .int u0_5, .int u0_6, .int u0_7, .int u0_8, .long u0_9])) : Option (Nat × va_E)) ∧ u[10]? = (some (q 10, .inr (2, [.ref (q 11), .int u3_0, .int u3_1])) : Option (Nat × va_E)) ∧ u[11]? = (some (q 11, .inl (g 0, (220 : Int32).toNatClampNeg, .inl u4_0)) : Option (Nat × va_E)) ∧ (r.toInt ≤ 2) ∧ (u0_4.toInt ≤ 1) ∧ (0 ≤ u0_6.toInt) ∧ (0 ≤ u0_8.toInt) ∧ (u0_8.toInt ≤ 1) ∧ (u3_0.toInt ≤ 4100) ∧ (0 ≤ u3_1.toInt) ∧ (t0_1.toInt ≤ u0_1.toInt) ∧ (u0_1.toInt ≤ t0_1.toInt) ∧ (t1_0.toInt ≤ u0_3.toInt) ∧ (u0_3.toInt ≤ t1_0.toInt) ∧ (u3_1.toInt ≤ r.toInt) ∧ (u3_1.toInt ≤ u0_4.toInt) ∧ (u3_1.toInt ≤ u3_0.toInt) ∧ (r, u0_0, u0_1, u0_2, u0_3, u0_4, u0_5, u0_6, u0_7, u0_8, u0_9, u3_0, u3_1, u4_0) = (F_Rea_decimalText t0_0 t0_1 t0_2 t0_3 t0_4 t0_5 t0_6 t0_7 t0_8 t0_9 t1_0 t2_0 t3_0 t3_1 t4_0)) := by
  intro sz
  refine q_into (by decide) (Nat.le_of_ble_eq_true rfl) ?_
  intro p e s m below meth c ls hsz C0 V hl
  have hx := C0.1
  have hb := C0.2.1
  have btt0_8 := (n_w38 hI hT0).2
  clear btt0_8
  have btt1_0 := n_shW hI (n_h1 g q) hT1
  clear btt1_0
  have btt3_1 := (q_bigW hI (n_b10 g q) hT3).2
  clear btt3_1
  have hF : q_un ws ws [10, 11, 38] := q_u0
  have hl : lv_has ls 1 [(0, .ref (q 38))] := hl
  refine lv_aload_n hx hb d_10_3_0 rfl (lv_at hl 0 rfl) ?_
  refine q_gov V (q_runV (As := []) (rest := []) (d := 1) (mc := 0) (ms := 0) (ci := 8) C0 V rfl LV_Rea_19 (X_Rea_begin l D g q ws   hI t0_0 t0_1 t0_2 t0_3 t0_4 t0_5 t0_6 t0_7 t0_8 t0_9 hT0 t1_0 hT1 t2_0 hT2  _) rfl rfl hT0 rfl hl.1 rfl (Nat.le_of_ble_eq_true rfl) ⟨by decide, by decide⟩ ⟨Nat.le_of_ble_eq_true rfl, Nat.le_of_ble_eq_true rfl⟩ d_10_3_1) (fun u27 H locs hp28 V => ?_)
  obtain ⟨hI, hZ9⟩ := hp28
  obtain ⟨hu61, hZ9⟩ := hZ9
  obtain ⟨y30, hZ9⟩ := hZ9
  obtain ⟨y31, hZ9⟩ := hZ9
  obtain ⟨y32, hZ9⟩ := hZ9
  obtain ⟨y33, hZ9⟩ := hZ9
  obtain ⟨y34, hZ9⟩ := hZ9
  obtain ⟨y35, hZ9⟩ := hZ9
  obtain ⟨y36, hZ9⟩ := hZ9
  obtain ⟨y37, hZ9⟩ := hZ9
  obtain ⟨y38, hZ9⟩ := hZ9
  obtain ⟨y39, hZ9⟩ := hZ9
  obtain ⟨hO29, hZ9⟩ := hZ9
  replace hZ9 := hZ9.2.2.2.2
  obtain ⟨b44, hZ9⟩ := hZ9
  obtain ⟨b45, hZ9⟩ := hZ9
  obtain ⟨b46, hZ9⟩ := hZ9
  obtain ⟨b47, hZ9⟩ := hZ9
  replace hZ9 := hZ9.2.2.2.2.2.2.2.2.2.2.2
  obtain ⟨-, hE60⟩ := hZ9
  replace hO29 : u27[38]? = (some (q 38, .inr (8, [.long y30, .long y31, .ref (q 1), .ref (q 9), .int y32, .int y33, .int y34, .int y35, .int y36, .int y37, .int y38, .long y39])) : Option (Nat × va_E)) := hO29
  obtain ⟨p62, e63⟩ : ∃ z, z = (F_Rea_begin t0_0 t0_1 t0_2 t0_3 t0_4 t0_5 t0_6 t0_7 t0_8 t0_9 t1_0 t2_0) := ⟨_, rfl⟩
  have e64 : y30 = p62.1 := congrArg (fun z => z.1) (hE60.trans e63.symm)
  have e65 : y31 = p62.2.1 := congrArg (fun z => z.2.1) (hE60.trans e63.symm)
  have e66 : y32 = p62.2.2.1 := congrArg (fun z => z.2.2.1) (hE60.trans e63.symm)
  have e67 : y33 = p62.2.2.2.1 := congrArg (fun z => z.2.2.2.1) (hE60.trans e63.symm)
  have e68 : y34 = p62.2.2.2.2.1 := congrArg (fun z => z.2.2.2.2.1) (hE60.trans e63.symm)
  have e69 : y35 = p62.2.2.2.2.2.1 := congrArg (fun z => z.2.2.2.2.2.1) (hE60.trans e63.symm)
  have e70 : y36 = p62.2.2.2.2.2.2.1 := congrArg (fun z => z.2.2.2.2.2.2.1) (hE60.trans e63.symm)
  have e71 : y37 = p62.2.2.2.2.2.2.2.1 := congrArg (fun z => z.2.2.2.2.2.2.2.1) (hE60.trans e63.symm)
  have e72 : y38 = p62.2.2.2.2.2.2.2.2.1 := congrArg (fun z => z.2.2.2.2.2.2.2.2.1) (hE60.trans e63.symm)
  have e73 : y39 = p62.2.2.2.2.2.2.2.2.2 := congrArg (fun z => z.2.2.2.2.2.2.2.2.2) (hE60.trans e63.symm)
  replace b44 : q_F (t0_1.toInt ≤ y31.toInt) := b44
  replace b45 : q_F (y31.toInt ≤ t0_1.toInt) := b45
  replace b46 : q_F (t1_0.toInt ≤ y33.toInt) := b46
  replace b47 : q_F (y33.toInt ≤ t1_0.toInt) := b47
  replace hT1 := (hu61 _ (by decide)).trans hT1
  replace hT2 := (hu61 _ (by decide)).trans hT2
  replace hT3 := (hu61 _ (by decide)).trans hT3
  replace hT4 := (hu61 _ (by decide)).trans hT4
  replace hF := q_uc hF hu61 (by simp)
  have hR74 := (show F_Rea_decimalText_c1 t0_0 t0_1 t0_2 t0_3 t0_4 t0_5 t0_6 t0_7 t0_8 t0_9 t1_0 t2_0 t3_0 t3_1 t4_0 p62 = (F_Rea_decimalText t0_0 t0_1 t0_2 t0_3 t0_4 t0_5 t0_6 t0_7 t0_8 t0_9 t1_0 t2_0 t3_0 t3_1 t4_0) from (by rw [e63, F_Rea_decimalText.eq_1]))
  have hS75 := (show True ∧ S_Rea_decimalText_c1 t0_0 t0_1 t0_2 t0_3 t0_4 t0_5 t0_6 t0_7 t0_8 t0_9 t1_0 t2_0 t3_0 t3_1 t4_0 p62 from (by rw [e63]; have h := hS; rw [S_Rea_decimalText.eq_1] at h; with_reducible exact h))
  refine lv_aload_n hx hb d_10_3_4 rfl (lv_at hl 0 rfl) ?_
  have ob79 : True ∧ S_Rea_takeSign y30 y31 y32 y33 y34 y35 y36 y37 y38 y39 t1_0 t2_0 := (by rw [e73, e72, e71, e70, e69, e68, e67, e66, e65, e64]; have h := hS75; rw [S_Rea_decimalText_c1.eq_1] at h; with_reducible exact h.2.1)
  refine q_gov V (q_runV (As := []) (rest := []) (d := 3) (mc := 0) (ms := 0) (ci := 8) C0 V rfl LV_Rea_22 (X_Rea_takeSign l D g q u27   hI y30 y31 y32 y33 y34 y35 y36 y37 y38 y39 hO29 t1_0 hT1 t2_0 hT2 ob79 _) rfl rfl hO29 rfl hl.1 rfl (Nat.le_of_ble_eq_true rfl) ⟨by decide, by decide⟩ ⟨Nat.le_of_ble_eq_true rfl, Nat.le_of_ble_eq_true rfl⟩ d_10_3_5) (fun u80 H locs hp81 V => ?_)
  obtain ⟨hI, hZ9⟩ := hp81
  obtain ⟨hu112, hZ9⟩ := hZ9
  obtain ⟨y83, hZ9⟩ := hZ9
  obtain ⟨y84, hZ9⟩ := hZ9
  obtain ⟨y85, hZ9⟩ := hZ9
  obtain ⟨y86, hZ9⟩ := hZ9
  obtain ⟨y87, hZ9⟩ := hZ9
  obtain ⟨y88, hZ9⟩ := hZ9
  obtain ⟨y89, hZ9⟩ := hZ9
  obtain ⟨y90, hZ9⟩ := hZ9
  obtain ⟨y91, hZ9⟩ := hZ9
  obtain ⟨y92, hZ9⟩ := hZ9
  obtain ⟨hO82, hZ9⟩ := hZ9
  obtain ⟨b93, hZ9⟩ := hZ9
  obtain ⟨b94, hZ9⟩ := hZ9
  replace hZ9 := hZ9.2.2
  obtain ⟨b97, hZ9⟩ := hZ9
  obtain ⟨b98, hZ9⟩ := hZ9
  obtain ⟨b99, hZ9⟩ := hZ9
  obtain ⟨b100, hZ9⟩ := hZ9
  replace hZ9 := hZ9.2.2.2.2.2.2.2.2.2
  obtain ⟨-, hE111⟩ := hZ9
  replace hO82 : u80[38]? = (some (q 38, .inr (8, [.long y83, .long y84, .ref (q 1), .ref (q 9), .int y85, .int y86, .int y87, .int y88, .int y89, .int y90, .int y91, .long y92])) : Option (Nat × va_E)) := hO82
  obtain ⟨p113, e114⟩ : ∃ z, z = (F_Rea_takeSign y30 y31 y32 y33 y34 y35 y36 y37 y38 y39 t1_0 t2_0) := ⟨_, rfl⟩
  have e115 : y83 = p113.1 := congrArg (fun z => z.1) (hE111.trans e114.symm)
  have e116 : y84 = p113.2.1 := congrArg (fun z => z.2.1) (hE111.trans e114.symm)
  have e117 : y85 = p113.2.2.1 := congrArg (fun z => z.2.2.1) (hE111.trans e114.symm)
  have e118 : y86 = p113.2.2.2.1 := congrArg (fun z => z.2.2.2.1) (hE111.trans e114.symm)
  have e119 : y87 = p113.2.2.2.2.1 := congrArg (fun z => z.2.2.2.2.1) (hE111.trans e114.symm)
  have e120 : y88 = p113.2.2.2.2.2.1 := congrArg (fun z => z.2.2.2.2.2.1) (hE111.trans e114.symm)
  have e121 : y89 = p113.2.2.2.2.2.2.1 := congrArg (fun z => z.2.2.2.2.2.2.1) (hE111.trans e114.symm)
  have e122 : y90 = p113.2.2.2.2.2.2.2.1 := congrArg (fun z => z.2.2.2.2.2.2.2.1) (hE111.trans e114.symm)
  have e123 : y91 = p113.2.2.2.2.2.2.2.2.1 := congrArg (fun z => z.2.2.2.2.2.2.2.2.1) (hE111.trans e114.symm)
  have e124 : y92 = p113.2.2.2.2.2.2.2.2.2 := congrArg (fun z => z.2.2.2.2.2.2.2.2.2) (hE111.trans e114.symm)
  replace b93 : q_F (0 ≤ y87.toInt) := b93
  replace b94 : q_F (y87.toInt ≤ 1) := b94
  replace b97 : q_F (y31.toInt ≤ y84.toInt) := b97
  replace b98 : q_F (y84.toInt ≤ y31.toInt) := b98
  replace b99 : q_F (y33.toInt ≤ y86.toInt) := b99
  replace b100 : q_F (y86.toInt ≤ y33.toInt) := b100
  replace hT1 := (hu112 _ (by decide)).trans hT1
  replace hT2 := (hu112 _ (by decide)).trans hT2
  replace hT3 := (hu112 _ (by decide)).trans hT3
  replace hT4 := (hu112 _ (by decide)).trans hT4
  replace hF := q_uc hF hu112 (by simp)
  have hR125 := (show F_Rea_decimalText_c5 t0_0 t0_1 t0_2 t0_3 t0_4 t0_5 t0_6 t0_7 t0_8 t0_9 t1_0 t2_0 t3_0 t3_1 t4_0 p62 p113 = (F_Rea_decimalText t0_0 t0_1 t0_2 t0_3 t0_4 t0_5 t0_6 t0_7 t0_8 t0_9 t1_0 t2_0 t3_0 t3_1 t4_0) from Eq.trans (by rw [e114, e73, e72, e71, e70, e69, e68, e67, e66, e65, e64, F_Rea_decimalText_c1.eq_1]) hR74)
  have hS126 := (show True ∧ S_Rea_decimalText_c5 t0_0 t0_1 t0_2 t0_3 t0_4 t0_5 t0_6 t0_7 t0_8 t0_9 t1_0 t2_0 t3_0 t3_1 t4_0 p62 p113 from (by rw [e114, e73, e72, e71, e70, e69, e68, e67, e66, e65, e64]; have h := hS75; rw [S_Rea_decimalText_c1.eq_1] at h; replace h := q_s2 h; with_reducible exact h))
  refine lv_aload_n hx hb d_10_3_8 rfl (lv_at hl 0 rfl) ?_
  refine lv_bipush (v := 10) hx hb d_10_3_9 (by decide) ?_
  refine lv_sipush (v := 1000) hx hb d_10_3_11 (by decide) ?_
  have ob130 : True ∧ S_Rea_takeFigures (10 : Int32) (1000 : Int32) y83 y84 y85 y86 y87 y88 y89 y90 y91 y92 t1_0 t2_0 t3_0 t3_1 t4_0 := (by rw [e124, e123, e122, e121, e120, e119, e118, e117, e116, e115]; have h := hS126; rw [S_Rea_decimalText_c5.eq_1] at h; with_reducible exact h.2.1)
  refine q_goi V (q_runV (As := [.int 10, .int 1000]) (rest := []) (d := 4) (mc := 0) (ms := 0) (ci := 8) C0 V rfl LV_Rea_62 (X_Rea_takeFigures l D g q u80  10 1000 hI y83 y84 y85 y86 y87 y88 y89 y90 y91 y92 hO82 t1_0 hT1 t2_0 hT2 t3_0 t3_1 hT3 t4_0 hT4 ob130 _) rfl rfl hO82 rfl hl.1 rfl (Nat.le_of_ble_eq_true rfl) ⟨by decide, by decide⟩ ⟨Nat.le_of_ble_eq_true rfl, Nat.le_of_ble_eq_true rfl⟩ d_10_3_14) (fun a133 u131 H locs hp132 V => ?_)
  obtain ⟨hI, hZ9⟩ := hp132
  obtain ⟨hu171, hZ9⟩ := hZ9
  obtain ⟨y135, hZ9⟩ := hZ9
  obtain ⟨y136, hZ9⟩ := hZ9
  obtain ⟨y137, hZ9⟩ := hZ9
  obtain ⟨y138, hZ9⟩ := hZ9
  obtain ⟨y139, hZ9⟩ := hZ9
  obtain ⟨y140, hZ9⟩ := hZ9
  obtain ⟨y141, hZ9⟩ := hZ9
  obtain ⟨y142, hZ9⟩ := hZ9
  obtain ⟨y143, hZ9⟩ := hZ9
  obtain ⟨y144, hZ9⟩ := hZ9
  obtain ⟨y146, hZ9⟩ := hZ9
  obtain ⟨y147, hZ9⟩ := hZ9
  obtain ⟨f148, hZ9⟩ := hZ9
  obtain ⟨hO134, hZ9⟩ := hZ9
  obtain ⟨hO145, hZ9⟩ := hZ9
  obtain ⟨hA149, hZ9⟩ := hZ9
  obtain ⟨b150, hZ9⟩ := hZ9
  obtain ⟨b151, hZ9⟩ := hZ9
  replace hZ9 := hZ9.2.2
  obtain ⟨b154, hZ9⟩ := hZ9
  obtain ⟨b155, hZ9⟩ := hZ9
  replace hZ9 := hZ9.2
  obtain ⟨b157, hZ9⟩ := hZ9
  obtain ⟨b158, hZ9⟩ := hZ9
  obtain ⟨b159, hZ9⟩ := hZ9
  obtain ⟨b160, hZ9⟩ := hZ9
  replace hZ9 := hZ9.2.2.2.2
  obtain ⟨b165, hZ9⟩ := hZ9
  obtain ⟨b166, hZ9⟩ := hZ9
  obtain ⟨b167, hZ9⟩ := hZ9
  obtain ⟨b168, hZ9⟩ := hZ9
  obtain ⟨b169, hE170⟩ := hZ9
  replace hO134 : u131[38]? = (some (q 38, .inr (8, [.long y135, .long y136, .ref (q 1), .ref (q 9), .int y137, .int y138, .int y139, .int y140, .int y141, .int y142, .int y143, .long y144])) : Option (Nat × va_E)) := hO134
  replace hO145 : u131[10]? = (some (q 10, .inr (2, [.ref (q 11), .int y146, .int y147])) : Option (Nat × va_E)) := hO145
  replace hA149 : u131[11]? = (some (q 11, .inl (g 0, (220 : Int32).toNatClampNeg, .inl f148)) : Option (Nat × va_E)) := hA149
  obtain ⟨p172, e173⟩ : ∃ z, z = (F_Rea_takeFigures (10 : Int32) (1000 : Int32) y83 y84 y85 y86 y87 y88 y89 y90 y91 y92 t1_0 t2_0 t3_0 t3_1 t4_0) := ⟨_, rfl⟩
  have e174 : a133 = p172.1 := congrArg (fun z => z.1) (hE170.trans e173.symm)
  have e175 : y135 = p172.2.1 := congrArg (fun z => z.2.1) (hE170.trans e173.symm)
  have e176 : y136 = p172.2.2.1 := congrArg (fun z => z.2.2.1) (hE170.trans e173.symm)
  have e177 : y137 = p172.2.2.2.1 := congrArg (fun z => z.2.2.2.1) (hE170.trans e173.symm)
  have e178 : y138 = p172.2.2.2.2.1 := congrArg (fun z => z.2.2.2.2.1) (hE170.trans e173.symm)
  have e179 : y139 = p172.2.2.2.2.2.1 := congrArg (fun z => z.2.2.2.2.2.1) (hE170.trans e173.symm)
  have e180 : y140 = p172.2.2.2.2.2.2.1 := congrArg (fun z => z.2.2.2.2.2.2.1) (hE170.trans e173.symm)
  have e181 : y141 = p172.2.2.2.2.2.2.2.1 := congrArg (fun z => z.2.2.2.2.2.2.2.1) (hE170.trans e173.symm)
  have e182 : y142 = p172.2.2.2.2.2.2.2.2.1 := congrArg (fun z => z.2.2.2.2.2.2.2.2.1) (hE170.trans e173.symm)
  have e183 : y143 = p172.2.2.2.2.2.2.2.2.2.1 := congrArg (fun z => z.2.2.2.2.2.2.2.2.2.1) (hE170.trans e173.symm)
  have e184 : y144 = p172.2.2.2.2.2.2.2.2.2.2.1 := congrArg (fun z => z.2.2.2.2.2.2.2.2.2.2.1) (hE170.trans e173.symm)
  have e185 : y146 = p172.2.2.2.2.2.2.2.2.2.2.2.1 := congrArg (fun z => z.2.2.2.2.2.2.2.2.2.2.2.1) (hE170.trans e173.symm)
  have e186 : y147 = p172.2.2.2.2.2.2.2.2.2.2.2.2.1 := congrArg (fun z => z.2.2.2.2.2.2.2.2.2.2.2.2.1) (hE170.trans e173.symm)
  have e187 : f148 = p172.2.2.2.2.2.2.2.2.2.2.2.2.2 := congrArg (fun z => z.2.2.2.2.2.2.2.2.2.2.2.2.2) (hE170.trans e173.symm)
  replace b150 : q_F (0 ≤ y147.toInt) := b150
  replace b151 : q_F (y147.toInt ≤ 0) := b151
  replace b154 : q_F (y84.toInt ≤ y136.toInt) := b154
  replace b155 : q_F (y136.toInt ≤ y84.toInt) := b155
  replace b157 : q_F (y86.toInt ≤ y138.toInt) := b157
  replace b158 : q_F (y138.toInt ≤ y86.toInt) := b158
  replace b159 : q_F (y87.toInt ≤ y139.toInt) := b159
  replace b160 : q_F (y139.toInt ≤ y87.toInt) := b160
  replace b165 : q_F (y147.toInt ≤ y141.toInt) := b165
  replace b166 : q_F (y147.toInt ≤ y143.toInt) := b166
  replace b167 : q_F (y143.toInt ≤ y147.toInt + 1) := b167
  replace b168 : q_F (y147.toInt ≤ y146.toInt) := b168
  replace b169 : q_F (y146.toInt ≤ y147.toInt + 4100) := b169
  replace hT1 := (hu171 _ (by decide)).trans hT1
  replace hT2 := (hu171 _ (by decide)).trans hT2
  replace hF := q_uc hF hu171 (by simp)
  have hR188 := (show F_Rea_decimalText_c14 t0_0 t0_1 t0_2 t0_3 t0_4 t0_5 t0_6 t0_7 t0_8 t0_9 t1_0 t2_0 t3_0 t3_1 t4_0 p62 p113 p172 = (F_Rea_decimalText t0_0 t0_1 t0_2 t0_3 t0_4 t0_5 t0_6 t0_7 t0_8 t0_9 t1_0 t2_0 t3_0 t3_1 t4_0) from Eq.trans (by rw [e173, e124, e123, e122, e121, e120, e119, e118, e117, e116, e115, F_Rea_decimalText_c5.eq_1]) hR125)
  have hS189 := (show True ∧ S_Rea_decimalText_c14 t0_0 t0_1 t0_2 t0_3 t0_4 t0_5 t0_6 t0_7 t0_8 t0_9 t1_0 t2_0 t3_0 t3_1 t4_0 p62 p113 p172 from (by rw [e173, e124, e123, e122, e121, e120, e119, e118, e117, e116, e115]; have h := hS126; rw [S_Rea_decimalText_c5.eq_1] at h; replace h := q_s2 h; with_reducible exact h))
  refine lv_if_ne (tgt := 22) hx hb d_10_3_17 (by decide) (fun c193 => ?_) (fun c193 => ?_)
  ·
    refine lv_aload_n hx hb d_10_3_22 rfl (lv_at hl 0 rfl) ?_
    refine lv_lconst (v := 0) hx hb d_10_3_23 (by decide) ?_
    refine q_put (ci := 8) (j := 11) (v := .long 0) (ty := .long) C0 V i_Rea o_Rea n_Rea rfl rfl hO134 (by decide) w_297 rfl rfl rfl rfl (Nat.le_of_ble_eq_true rfl) d_10_3_24 (fun H locs w195 hu196 hO134 V => ?_)
    replace hO134 : w195[38]? = (some (q 38, .inr (8, [.long y135, .long y136, .ref (q 1), .ref (q 9), .int y137, .int y138, .int y139, .int y140, .int y141, .int y142, .int y143, .long 0])) : Option (Nat × va_E)) := hO134
    replace hI := n_p38 hI hu196 hO134 ⟨(by have t1 : 0 ≤ y87.toInt := b93; have t2 : y87.toInt ≤ y139.toInt := b159; omega), (by have t1 : y87.toInt ≤ 1 := b94; have t2 : y139.toInt ≤ y87.toInt := b160; omega)⟩ ⟨(by have t1 : 0 ≤ y147.toInt := b150; have t2 : y147.toInt ≤ y143.toInt := b166; omega), (by have t1 : y147.toInt ≤ 0 := b151; have t2 : y143.toInt ≤ y147.toInt + 1 := b167; omega)⟩
    replace hT1 := (hu196 _ (by decide)).trans hT1
    replace hT2 := (hu196 _ (by decide)).trans hT2
    replace hO145 := (hu196 _ (by decide)).trans hO145
    replace hA149 := (hu196 _ (by decide)).trans hA149
    replace hF := q_us hF hu196 (by simp)
    refine lv_aload_n hx hb d_10_3_27 rfl (lv_at hl 0 rfl) ?_
    have ob197 : True ∧ S_Rea_here y135 y136 y137 y138 y139 y140 y141 y142 y143 (0 : Int64) t1_0 t2_0 := (by rw [e183, e182, e181, e180, e179, e178, e177, e176, e175]; have h := hS189; rw [S_Rea_decimalText_c14.eq_1] at h; have c193x := c193; rw [e174] at c193x; rw [if_neg c193x] at h; with_reducible exact h.2.1)
    refine q_goi V (q_runV (As := []) (rest := []) (d := 2) (mc := 0) (ms := 0) (ci := 8) C0 V rfl LV_Rea_70 (X_Rea_here l D g q w195   hI y135 y136 y137 y138 y139 y140 y141 y142 y143 0 hO134 t1_0 hT1 t2_0 hT2 ob197 _) rfl rfl hO134 rfl hl.1 rfl (Nat.le_of_ble_eq_true rfl) ⟨by decide, by decide⟩ ⟨Nat.le_of_ble_eq_true rfl, Nat.le_of_ble_eq_true rfl⟩ d_10_3_28) (fun a200 u198 H locs hp199 V => ?_)
    obtain ⟨rfl, b201, b202, hE203⟩ := hp199
    have e204 : a200 = (F_Rea_here y135 y136 y137 y138 y139 y140 y141 y142 y143 (0 : Int64) t1_0 t2_0) := hE203
    clear b201
    clear b202
    refine lv_bipush (v := 32) hx hb d_10_3_31 (by decide) ?_
    refine lv_ior hx hb d_10_3_33 ?_
    obtain ⟨a205, e206⟩ := q_nm (a200 ||| 32 : Int32)
    refine q_ti (v := a205) e206 ?_
    refine lv_bipush (v := 101) hx hb d_10_3_34 (by decide) ?_
    refine q_join (X := Int64 × Int64 × Int32 × Int32 × Int32 × Int32 × Int32 × Int32 × Int32 × Int64) (fun z H locs ls w239 => q_F (y135.toInt ≤ z.1.toInt) ∧ q_F (z.1.toInt ≤ y135.toInt) ∧ q_F (y136.toInt ≤ z.2.1.toInt) ∧ q_F (z.2.1.toInt ≤ y136.toInt) ∧ q_F (y138.toInt ≤ z.2.2.2.1.toInt) ∧ q_F (z.2.2.2.1.toInt ≤ y138.toInt) ∧ q_F (y139.toInt ≤ z.2.2.2.2.1.toInt) ∧ q_F (z.2.2.2.2.1.toInt ≤ y139.toInt) ∧ q_F (y140.toInt ≤ z.2.2.2.2.2.1.toInt) ∧ q_F (z.2.2.2.2.2.1.toInt ≤ y140.toInt) ∧ q_F (y141.toInt ≤ z.2.2.2.2.2.2.1.toInt) ∧ q_F (z.2.2.2.2.2.2.1.toInt ≤ y141.toInt) ∧ q_F (y142.toInt ≤ z.2.2.2.2.2.2.2.1.toInt) ∧ q_F (z.2.2.2.2.2.2.2.1.toInt ≤ y142.toInt) ∧ q_F (y143.toInt ≤ z.2.2.2.2.2.2.2.2.1.toInt) ∧ q_F (z.2.2.2.2.2.2.2.2.1.toInt ≤ y143.toInt) ∧ q_Wd D g (va_A ws sz) s w239 H locs ∧ lv_has ls 1 [(0, .ref (q 38))] ∧ q_I (nsh g q) q w239 ∧ q_un ws w239 [10, 11, 38] ∧ w239[38]? = (some (q 38, .inr (8, [.long z.1, .long z.2.1, .ref (q 1), .ref (q 9), .int z.2.2.1, .int z.2.2.2.1, .int z.2.2.2.2.1, .int z.2.2.2.2.2.1, .int z.2.2.2.2.2.2.1, .int z.2.2.2.2.2.2.2.1, .int z.2.2.2.2.2.2.2.2.1, .long z.2.2.2.2.2.2.2.2.2])) : Option (Nat × va_E)) ∧ w239[1]? = (some (q 1, .inr (1, [.ref (q 2), .int 4100, .int t1_0])) : Option (Nat × va_E)) ∧ w239[2]? = (some (q 2, .inl (g 1, (513 : Int32).toNatClampNeg, .inr (.inl t2_0))) : Option (Nat × va_E)) ∧ w239[10]? = (some (q 10, .inr (2, [.ref (q 11), .int y146, .int y147])) : Option (Nat × va_E)) ∧ w239[11]? = (some (q 11, .inl (g 0, (220 : Int32).toNatClampNeg, .inl f148)) : Option (Nat × va_E)) ∧ F_Rea_decimalText_J50 t0_0 t0_1 t0_2 t0_3 t0_4 t0_5 t0_6 t0_7 t0_8 t0_9 t1_0 t2_0 t3_0 t3_1 t4_0 p62 p113 p172 y146 y147 f148 z.1 z.2.1 z.2.2.1 z.2.2.2.1 z.2.2.2.2.1 z.2.2.2.2.2.1 z.2.2.2.2.2.2.1 z.2.2.2.2.2.2.2.1 z.2.2.2.2.2.2.2.2.1 z.2.2.2.2.2.2.2.2.2 = (F_Rea_decimalText t0_0 t0_1 t0_2 t0_3 t0_4 t0_5 t0_6 t0_7 t0_8 t0_9 t1_0 t2_0 t3_0 t3_1 t4_0) ∧ True ∧ S_Rea_decimalText_J50 t0_0 t0_1 t0_2 t0_3 t0_4 t0_5 t0_6 t0_7 t0_8 t0_9 t1_0 t2_0 t3_0 t3_1 t4_0 p62 p113 p172 y146 y147 f148 z.1 z.2.1 z.2.2.1 z.2.2.2.1 z.2.2.2.2.1 z.2.2.2.2.2.1 z.2.2.2.2.2.2.1 z.2.2.2.2.2.2.2.1 z.2.2.2.2.2.2.2.2.1 z.2.2.2.2.2.2.2.2.2) (fun z => []) 50 0 0 ?_ ?_
    ·
      rintro ⟨lx207, lx208, lx209, lx210, lx211, lx212, lx213, lx214, lx215, lx216⟩ H locs ls w239 ⟨i223, i224, i225, i226, i227, i228, i229, i230, i231, i232, i233, i234, i235, i236, i237, i238, V, hl, hI, hF, hO217, hO218, hA219, hO220, hA221, hR240, hS241⟩
      clear i223
      clear i224
      replace i225 : q_F (y136.toInt ≤ lx208.toInt) := i225
      replace i226 : q_F (lx208.toInt ≤ y136.toInt) := i226
      replace i227 : q_F (y138.toInt ≤ lx210.toInt) := i227
      replace i228 : q_F (lx210.toInt ≤ y138.toInt) := i228
      replace i229 : q_F (y139.toInt ≤ lx211.toInt) := i229
      replace i230 : q_F (lx211.toInt ≤ y139.toInt) := i230
      clear i231
      clear i232
      replace i233 : q_F (y141.toInt ≤ lx213.toInt) := i233
      clear i234
      clear i235
      clear i236
      replace i237 : q_F (y143.toInt ≤ lx215.toInt) := i237
      replace i238 : q_F (lx215.toInt ≤ y143.toInt) := i238
      replace hl : lv_has ls 1 [(0, .ref (q 38))] := hl
      replace hO217 : w239[38]? = (some (q 38, .inr (8, [.long lx207, .long lx208, .ref (q 1), .ref (q 9), .int lx209, .int lx210, .int lx211, .int lx212, .int lx213, .int lx214, .int lx215, .long lx216])) : Option (Nat × va_E)) := hO217
      replace hO220 : w239[10]? = (some (q 10, .inr (2, [.ref (q 11), .int y146, .int y147])) : Option (Nat × va_E)) := hO220
      replace hA221 : w239[11]? = (some (q 11, .inl (g 0, (220 : Int32).toNatClampNeg, .inl f148)) : Option (Nat × va_E)) := hA221
      refine lv_aload_n hx hb d_10_3_50 rfl (lv_at hl 0 rfl) ?_
      refine q_get (ci := 8) (j := 4) (v := .int lx209) C0 V i_Rea rfl rfl hO217 (by decide) w_290 rfl d_10_3_51 ?_
      refine lv_aload_n hx hb d_10_3_54 rfl (lv_at hl 0 rfl) ?_
      refine q_get (ci := 8) (j := 5) (v := .int lx210) C0 V i_Rea rfl rfl hO217 (by decide) w_291 rfl d_10_3_55 ?_
      refine lv_icmp_ge (tgt := 63) hx hb d_10_3_58 (by decide) (fun c245 => ?_) (fun c245 => ?_)
      ·
        refine lv_aload_n hx hb d_10_3_63 rfl (lv_at hl 0 rfl) ?_
        refine q_get (ci := 8) (j := 3) (v := .ref (q 9)) C0 V i_Rea rfl rfl hO217 (by decide) w_289 rfl d_10_3_64 ?_
        have hO247 := n_o9 hI
        refine q_get (ci := 4) (j := 0) (v := .ref (q 10)) C0 V i_Mil rfl rfl hO247 (by decide) w_109 rfl d_10_3_67 ?_
        refine lv_aload_n hx hb d_10_3_70 rfl (lv_at hl 0 rfl) ?_
        refine q_get (ci := 8) (j := 6) (v := .int lx211) C0 V i_Rea rfl rfl hO217 (by decide) w_292 rfl d_10_3_71 ?_
        refine q_join (X := Int32) (fun z H locs ls _ => q_F (0 ≤ z.toInt) ∧ q_F (z.toInt ≤ 1) ∧ q_F (z.toInt ≤ lx211.toInt) ∧ q_F (z.toInt ≤ y146.toInt) ∧ q_Wd D g (va_A ws sz) s w239 H locs ∧ lv_has ls 1 [(0, .ref (q 38))] ∧ F_Rea_decimalText_J95 t0_0 t0_1 t0_2 t0_3 t0_4 t0_5 t0_6 t0_7 t0_8 t0_9 t1_0 t2_0 t3_0 t3_1 t4_0 p62 p113 p172 y146 y147 f148 lx207 lx208 lx209 lx210 lx211 lx212 lx213 lx214 lx215 lx216 z = (F_Rea_decimalText t0_0 t0_1 t0_2 t0_3 t0_4 t0_5 t0_6 t0_7 t0_8 t0_9 t1_0 t2_0 t3_0 t3_1 t4_0) ∧ True ∧ S_Rea_decimalText_J95 t0_0 t0_1 t0_2 t0_3 t0_4 t0_5 t0_6 t0_7 t0_8 t0_9 t1_0 t2_0 t3_0 t3_1 t4_0 p62 p113 p172 y146 y147 f148 lx207 lx208 lx209 lx210 lx211 lx212 lx213 lx214 lx215 lx216 z) (fun z => [.int z, .ref (q 10)]) 95 0 0 ?_ ?_
        ·
          rintro lx248 H locs ls _ hZ9
          obtain ⟨i255, hZ9⟩ := hZ9
          obtain ⟨i256, hZ9⟩ := hZ9
          obtain ⟨i257, hZ9⟩ := hZ9
          obtain ⟨i258, hZ9⟩ := hZ9
          obtain ⟨V, hZ9⟩ := hZ9
          obtain ⟨hl, hZ9⟩ := hZ9
          obtain ⟨hR259, hS260⟩ := hZ9
          replace i255 : q_F (0 ≤ lx248.toInt) := i255
          replace i256 : q_F (lx248.toInt ≤ 1) := i256
          replace i257 : q_F (lx248.toInt ≤ lx211.toInt) := i257
          replace i258 : q_F (lx248.toInt ≤ y146.toInt) := i258
          replace hl : lv_has ls 1 [(0, .ref (q 38))] := hl
          refine q_put (ci := 2) (j := 2) (v := .int lx248) (ty := .boolean) C0 V i_Big o_Big n_Big rfl rfl hO220 (by decide) w_95 rfl rfl (q_nz01 (q_Ile (x := 0) (y := lx248.toInt) (by decide) rfl (by first | with_reducible exact q_fe i255 | (have t1 : 0 ≤ lx248.toInt := i255; omega))) (q_Ile (x := lx248.toInt) (y := 1) rfl (by decide) (by first | with_reducible exact q_fe i256 | (have t1 : lx248.toInt ≤ 1 := i256; omega)))) (q_fz01 (q_Ile (x := 0) (y := lx248.toInt) (by decide) rfl (by first | with_reducible exact q_fe i255 | (have t1 : 0 ≤ lx248.toInt := i255; omega))) (q_Ile (x := lx248.toInt) (y := 1) rfl (by decide) (by first | with_reducible exact q_fe i256 | (have t1 : lx248.toInt ≤ 1 := i256; omega)))) (Nat.le_of_ble_eq_true rfl) d_10_3_95 (fun H locs w264 hu265 hO220 V => ?_)
          replace hO220 : w264[10]? = (some (q 10, .inr (2, [.ref (q 11), .int y146, .int lx248])) : Option (Nat × va_E)) := hO220
          have ob266 : q_F (y146.toInt ≤ 220) := (by have h := hS260; rw [S_Rea_decimalText_J95.eq_1] at h; exact h.2.1)
          replace hI := q_bigO' hI (n_b10 g q) hu265 hO220 ⟨(by have zR : (220 : Int32).toInt = 220 := rfl; have t1 : 0 ≤ y147.toInt := b150; have t2 : y147.toInt ≤ y146.toInt := b168; omega), (by have zR : (220 : Int32).toInt = 220 := rfl; have t1 : y146.toInt ≤ 220 := ob266; omega)⟩ ⟨(by first | with_reducible exact q_fe i255 | (have t1 : 0 ≤ lx248.toInt := i255; omega)), (by first | with_reducible exact q_fe i256 | (have t1 : lx248.toInt ≤ 1 := i256; omega))⟩
          replace hO217 := (hu265 _ (by decide)).trans hO217
          replace hA221 := (hu265 _ (by decide)).trans hA221
          replace hF := q_us hF hu265 (by simp)
          refine lv_aload_n hx hb d_10_3_98 rfl (lv_at hl 0 rfl) ?_
          refine lv_aload_n hx hb d_10_3_99 rfl (lv_at hl 0 rfl) ?_
          refine q_get (ci := 8) (j := 7) (v := .int lx212) C0 V i_Rea rfl rfl hO217 (by decide) w_293 rfl d_10_3_100 ?_
          refine lv_i2l hx hb d_10_3_103 rfl ?_
          obtain ⟨j267, e268⟩ := q_nm (lx212.toInt64 : Int64)
          refine q_tl (v := j267) e268 ?_
          refine lv_aload_n hx hb d_10_3_104 rfl (lv_at hl 0 rfl) ?_
          refine q_get (ci := 8) (j := 11) (v := .long lx216) C0 V i_Rea rfl rfl hO217 (by decide) w_297 rfl d_10_3_105 ?_
          refine lv_lsub hx hb d_10_3_108 ?_
          obtain ⟨j270, e271⟩ := q_nm (j267 - lx216 : Int64)
          refine q_tl (v := j270) e271 ?_
          refine q_put (ci := 8) (j := 0) (v := .long j270) (ty := .long) C0 V i_Rea o_Rea n_Rea rfl rfl hO217 (by decide) w_284 rfl rfl rfl rfl (Nat.le_of_ble_eq_true rfl) d_10_3_109 (fun H locs w272 hu273 hO217 V => ?_)
          replace hO217 : w272[38]? = (some (q 38, .inr (8, [.long j270, .long lx208, .ref (q 1), .ref (q 9), .int lx209, .int lx210, .int lx211, .int lx212, .int lx213, .int lx214, .int lx215, .long lx216])) : Option (Nat × va_E)) := hO217
          replace hI := n_p38 hI hu273 hO217 ⟨(by have t1 : 0 ≤ lx248.toInt := i255; have t2 : lx248.toInt ≤ lx211.toInt := i257; omega), (by have t1 : y87.toInt ≤ 1 := b94; have t2 : y139.toInt ≤ y87.toInt := b160; have t3 : lx211.toInt ≤ y139.toInt := i230; omega)⟩ ⟨(by have t1 : 0 ≤ y147.toInt := b150; have t2 : y147.toInt ≤ y143.toInt := b166; have t3 : y143.toInt ≤ lx215.toInt := i237; omega), (by have t1 : y147.toInt ≤ 0 := b151; have t2 : y143.toInt ≤ y147.toInt + 1 := b167; have t3 : lx215.toInt ≤ y143.toInt := i238; omega)⟩
          replace hO220 := (hu273 _ (by decide)).trans hO220
          replace hA221 := (hu273 _ (by decide)).trans hA221
          replace hF := q_us hF hu273 (by simp)
          refine lv_aload_n hx hb d_10_3_112 rfl (lv_at hl 0 rfl) ?_
          refine q_get (ci := 8) (j := 9) (v := .int lx214) C0 V i_Rea rfl rfl hO217 (by decide) w_295 rfl d_10_3_113 ?_
          refine lv_if_le (tgt := 123) hx hb d_10_3_116 (by decide) (fun c274 => ?_) (fun c274 => ?_)
          ·
            refine lv_iconst (v := 1) hx hb d_10_3_123 (by decide) ?_
            exact q_reti C0 V (⟨hI, hF, j270, lx208, lx209, lx210, lx211, lx212, lx213, lx214, lx215, lx216, y146, lx248, f148, hO217, hO220, hA221, (show (1 : Int32).toInt ≤ 2 from (by have z15 : (1 : Int32).toInt = 1 := rfl; omega)), (show lx211.toInt ≤ 1 from (by have z15 : (1 : Int32).toInt = 1 := rfl; have t1 : y87.toInt ≤ 1 := b94; have t2 : y139.toInt ≤ y87.toInt := b160; have t3 : lx211.toInt ≤ y139.toInt := i230; omega)), (show 0 ≤ lx213.toInt from (by have z15 : (1 : Int32).toInt = 1 := rfl; have t1 : 0 ≤ y147.toInt := b150; have t2 : y147.toInt ≤ y141.toInt := b165; have t3 : y141.toInt ≤ lx213.toInt := i233; omega)), (show 0 ≤ lx215.toInt from (by have z15 : (1 : Int32).toInt = 1 := rfl; have t1 : 0 ≤ y147.toInt := b150; have t2 : y147.toInt ≤ y143.toInt := b166; have t3 : y143.toInt ≤ lx215.toInt := i237; omega)), (show lx215.toInt ≤ 1 from (by have z15 : (1 : Int32).toInt = 1 := rfl; have t1 : y147.toInt ≤ 0 := b151; have t2 : y143.toInt ≤ y147.toInt + 1 := b167; have t3 : lx215.toInt ≤ y143.toInt := i238; omega)), (show y146.toInt ≤ 4100 from (by have z15 : (1 : Int32).toInt = 1 := rfl; have t1 : y146.toInt ≤ 220 := ob266; omega)), (show 0 ≤ lx248.toInt from (by have z15 : (1 : Int32).toInt = 1 := rfl; have t1 : 0 ≤ lx248.toInt := i255; omega)), (show t0_1.toInt ≤ lx208.toInt from (by have z15 : (1 : Int32).toInt = 1 := rfl; have t1 : t0_1.toInt ≤ y31.toInt := b44; have t2 : y31.toInt ≤ y84.toInt := b97; have t3 : y84.toInt ≤ y136.toInt := b154; have t4 : y136.toInt ≤ lx208.toInt := i225; omega)), (show lx208.toInt ≤ t0_1.toInt from (by have z15 : (1 : Int32).toInt = 1 := rfl; have t1 : y31.toInt ≤ t0_1.toInt := b45; have t2 : y84.toInt ≤ y31.toInt := b98; have t3 : y136.toInt ≤ y84.toInt := b155; have t4 : lx208.toInt ≤ y136.toInt := i226; omega)), (show t1_0.toInt ≤ lx210.toInt from (by have z15 : (1 : Int32).toInt = 1 := rfl; have t1 : t1_0.toInt ≤ y33.toInt := b46; have t2 : y33.toInt ≤ y86.toInt := b99; have t3 : y86.toInt ≤ y138.toInt := b157; have t4 : y138.toInt ≤ lx210.toInt := i227; omega)), (show lx210.toInt ≤ t1_0.toInt from (by have z15 : (1 : Int32).toInt = 1 := rfl; have t1 : y33.toInt ≤ t1_0.toInt := b47; have t2 : y86.toInt ≤ y33.toInt := b100; have t3 : y138.toInt ≤ y86.toInt := b158; have t4 : lx210.toInt ≤ y138.toInt := i228; omega)), (show lx248.toInt ≤ (1 : Int32).toInt from (by have z15 : (1 : Int32).toInt = 1 := rfl; have t1 : lx248.toInt ≤ 1 := i256; omega)), (show lx248.toInt ≤ lx211.toInt from (by have z15 : (1 : Int32).toInt = 1 := rfl; have t1 : lx248.toInt ≤ lx211.toInt := i257; omega)), (show lx248.toInt ≤ y146.toInt from (by have z15 : (1 : Int32).toInt = 1 := rfl; have t1 : lx248.toInt ≤ y146.toInt := i258; omega)), (show ((1 : Int32), j270, lx208, lx209, lx210, lx211, lx212, lx213, lx214, lx215, lx216, y146, lx248, f148) = (F_Rea_decimalText t0_0 t0_1 t0_2 t0_3 t0_4 t0_5 t0_6 t0_7 t0_8 t0_9 t1_0 t2_0 t3_0 t3_1 t4_0) from Eq.trans (by rw [← e271, ← e268, F_Rea_decimalText_J95.eq_1, if_pos c274]) hR259)⟩) d_10_3_124
          ·
            refine lv_iconst (v := 2) hx hb d_10_3_119 (by decide) ?_
            refine lv_goto (tgt := 124) hx hb d_10_3_120 (by decide) ?_
            exact q_reti C0 V (⟨hI, hF, j270, lx208, lx209, lx210, lx211, lx212, lx213, lx214, lx215, lx216, y146, lx248, f148, hO217, hO220, hA221, (show (2 : Int32).toInt ≤ 2 from (by have z15 : (2 : Int32).toInt = 2 := rfl; omega)), (show lx211.toInt ≤ 1 from (by have z15 : (2 : Int32).toInt = 2 := rfl; have t1 : y87.toInt ≤ 1 := b94; have t2 : y139.toInt ≤ y87.toInt := b160; have t3 : lx211.toInt ≤ y139.toInt := i230; omega)), (show 0 ≤ lx213.toInt from (by have z15 : (2 : Int32).toInt = 2 := rfl; have t1 : 0 ≤ y147.toInt := b150; have t2 : y147.toInt ≤ y141.toInt := b165; have t3 : y141.toInt ≤ lx213.toInt := i233; omega)), (show 0 ≤ lx215.toInt from (by have z15 : (2 : Int32).toInt = 2 := rfl; have t1 : 0 ≤ y147.toInt := b150; have t2 : y147.toInt ≤ y143.toInt := b166; have t3 : y143.toInt ≤ lx215.toInt := i237; omega)), (show lx215.toInt ≤ 1 from (by have z15 : (2 : Int32).toInt = 2 := rfl; have t1 : y147.toInt ≤ 0 := b151; have t2 : y143.toInt ≤ y147.toInt + 1 := b167; have t3 : lx215.toInt ≤ y143.toInt := i238; omega)), (show y146.toInt ≤ 4100 from (by have z15 : (2 : Int32).toInt = 2 := rfl; have t1 : y146.toInt ≤ 220 := ob266; omega)), (show 0 ≤ lx248.toInt from (by have z15 : (2 : Int32).toInt = 2 := rfl; have t1 : 0 ≤ lx248.toInt := i255; omega)), (show t0_1.toInt ≤ lx208.toInt from (by have z15 : (2 : Int32).toInt = 2 := rfl; have t1 : t0_1.toInt ≤ y31.toInt := b44; have t2 : y31.toInt ≤ y84.toInt := b97; have t3 : y84.toInt ≤ y136.toInt := b154; have t4 : y136.toInt ≤ lx208.toInt := i225; omega)), (show lx208.toInt ≤ t0_1.toInt from (by have z15 : (2 : Int32).toInt = 2 := rfl; have t1 : y31.toInt ≤ t0_1.toInt := b45; have t2 : y84.toInt ≤ y31.toInt := b98; have t3 : y136.toInt ≤ y84.toInt := b155; have t4 : lx208.toInt ≤ y136.toInt := i226; omega)), (show t1_0.toInt ≤ lx210.toInt from (by have z15 : (2 : Int32).toInt = 2 := rfl; have t1 : t1_0.toInt ≤ y33.toInt := b46; have t2 : y33.toInt ≤ y86.toInt := b99; have t3 : y86.toInt ≤ y138.toInt := b157; have t4 : y138.toInt ≤ lx210.toInt := i227; omega)), (show lx210.toInt ≤ t1_0.toInt from (by have z15 : (2 : Int32).toInt = 2 := rfl; have t1 : y33.toInt ≤ t1_0.toInt := b47; have t2 : y86.toInt ≤ y33.toInt := b100; have t3 : y138.toInt ≤ y86.toInt := b158; have t4 : lx210.toInt ≤ y138.toInt := i228; omega)), (show lx248.toInt ≤ (2 : Int32).toInt from (by have z15 : (2 : Int32).toInt = 2 := rfl; have t1 : lx248.toInt ≤ 1 := i256; omega)), (show lx248.toInt ≤ lx211.toInt from (by have z15 : (2 : Int32).toInt = 2 := rfl; have t1 : lx248.toInt ≤ lx211.toInt := i257; omega)), (show lx248.toInt ≤ y146.toInt from (by have z15 : (2 : Int32).toInt = 2 := rfl; have t1 : lx248.toInt ≤ y146.toInt := i258; omega)), (show ((2 : Int32), j270, lx208, lx209, lx210, lx211, lx212, lx213, lx214, lx215, lx216, y146, lx248, f148) = (F_Rea_decimalText t0_0 t0_1 t0_2 t0_3 t0_4 t0_5 t0_6 t0_7 t0_8 t0_9 t1_0 t2_0 t3_0 t3_1 t4_0) from Eq.trans (by rw [← e271, ← e268, F_Rea_decimalText_J95.eq_1, if_neg c274]) hR259)⟩) d_10_3_124
        ·
          intro J254
          refine q_join (X := Unit) (fun z H locs ls _ => q_Wd D g (va_A ws sz) s w239 H locs ∧ lv_has ls 1 [(0, .ref (q 38))] ∧ F_Rea_decimalText_J94 t0_0 t0_1 t0_2 t0_3 t0_4 t0_5 t0_6 t0_7 t0_8 t0_9 t1_0 t2_0 t3_0 t3_1 t4_0 p62 p113 p172 y146 y147 f148 lx207 lx208 lx209 lx210 lx211 lx212 lx213 lx214 lx215 lx216 = (F_Rea_decimalText t0_0 t0_1 t0_2 t0_3 t0_4 t0_5 t0_6 t0_7 t0_8 t0_9 t1_0 t2_0 t3_0 t3_1 t4_0) ∧ True ∧ S_Rea_decimalText_J94 t0_0 t0_1 t0_2 t0_3 t0_4 t0_5 t0_6 t0_7 t0_8 t0_9 t1_0 t2_0 t3_0 t3_1 t4_0 p62 p113 p172 y146 y147 f148 lx207 lx208 lx209 lx210 lx211 lx212 lx213 lx214 lx215 lx216) (fun z => [.ref (q 10)]) 94 0 0 ?_ ?_
          ·
            rintro _ H locs ls _ ⟨V, hl, hR283, hS284⟩
            replace hl : lv_has ls 1 [(0, .ref (q 38))] := hl
            refine lv_iconst (v := 0) hx hb d_10_3_94 (by decide) ?_
            exact J254 ((0 : Int32)) _ _ _ w239 ⟨(show q_F (0 ≤ 0) from (show 0 ≤ 0 from by omega)), (show q_F (0 ≤ 1) from (show 0 ≤ 1 from by omega)), (show q_F (0 ≤ lx211.toInt) from (show 0 ≤ lx211.toInt from by have t1 : 0 ≤ y87.toInt := b93; have t2 : y87.toInt ≤ y139.toInt := b159; have t3 : y139.toInt ≤ lx211.toInt := i229; omega)), (show q_F (0 ≤ y146.toInt) from (show 0 ≤ y146.toInt from by have t1 : 0 ≤ y147.toInt := b150; have t2 : y147.toInt ≤ y146.toInt := b168; omega)), V, q_lw hl (q_lw1 0 rfl q_lw0), (show F_Rea_decimalText_J95 t0_0 t0_1 t0_2 t0_3 t0_4 t0_5 t0_6 t0_7 t0_8 t0_9 t1_0 t2_0 t3_0 t3_1 t4_0 p62 p113 p172 y146 y147 f148 lx207 lx208 lx209 lx210 lx211 lx212 lx213 lx214 lx215 lx216 0 = (F_Rea_decimalText t0_0 t0_1 t0_2 t0_3 t0_4 t0_5 t0_6 t0_7 t0_8 t0_9 t1_0 t2_0 t3_0 t3_1 t4_0) from Eq.trans (by rw [F_Rea_decimalText_J94.eq_1]) hR283), (show True ∧ S_Rea_decimalText_J95 t0_0 t0_1 t0_2 t0_3 t0_4 t0_5 t0_6 t0_7 t0_8 t0_9 t1_0 t2_0 t3_0 t3_1 t4_0 p62 p113 p172 y146 y147 f148 lx207 lx208 lx209 lx210 lx211 lx212 lx213 lx214 lx215 lx216 0 from (by have h := hS284; rw [S_Rea_decimalText_J94.eq_1] at h; with_reducible exact h))⟩
          ·
            intro J282
            refine lv_if_eq (tgt := 94) hx hb d_10_3_74 (by decide) (fun c288 => ?_) (fun c288 => ?_)
            ·
              exact J282 (()) _ _ _ w239 ⟨V, q_lw hl (q_lw1 0 rfl q_lw0), (show F_Rea_decimalText_J94 t0_0 t0_1 t0_2 t0_3 t0_4 t0_5 t0_6 t0_7 t0_8 t0_9 t1_0 t2_0 t3_0 t3_1 t4_0 p62 p113 p172 y146 y147 f148 lx207 lx208 lx209 lx210 lx211 lx212 lx213 lx214 lx215 lx216 = (F_Rea_decimalText t0_0 t0_1 t0_2 t0_3 t0_4 t0_5 t0_6 t0_7 t0_8 t0_9 t1_0 t2_0 t3_0 t3_1 t4_0) from Eq.trans (by rw [F_Rea_decimalText_J50.eq_1, if_pos c245, if_pos c288]) hR240), (show True ∧ S_Rea_decimalText_J94 t0_0 t0_1 t0_2 t0_3 t0_4 t0_5 t0_6 t0_7 t0_8 t0_9 t1_0 t2_0 t3_0 t3_1 t4_0 p62 p113 p172 y146 y147 f148 lx207 lx208 lx209 lx210 lx211 lx212 lx213 lx214 lx215 lx216 from (by have h := hS241; rw [S_Rea_decimalText_J50.eq_1] at h; rw [if_pos c245] at h; rw [if_pos c288] at h; with_reducible exact h))⟩
            ·
              have b290 : q_F (lx211.toInt ≠ 0) := (q_neI c288)
              refine lv_aload_n hx hb d_10_3_77 rfl (lv_at hl 0 rfl) ?_
              refine q_get (ci := 8) (j := 3) (v := .ref (q 9)) C0 V i_Rea rfl rfl hO217 (by decide) w_289 rfl d_10_3_78 ?_
              refine q_get (ci := 4) (j := 0) (v := .ref (q 10)) C0 V i_Mil rfl rfl hO247 (by decide) w_109 rfl d_10_3_81 ?_
              refine q_get (ci := 2) (j := 1) (v := .int y146) C0 V i_Big rfl rfl hO220 (by decide) w_88 rfl d_10_3_84 ?_
              refine lv_if_le (tgt := 94) hx hb d_10_3_87 (by decide) (fun c291 => ?_) (fun c291 => ?_)
              ·
                exact J282 (()) _ _ _ w239 ⟨V, q_lw hl (q_lw1 0 rfl q_lw0), (show F_Rea_decimalText_J94 t0_0 t0_1 t0_2 t0_3 t0_4 t0_5 t0_6 t0_7 t0_8 t0_9 t1_0 t2_0 t3_0 t3_1 t4_0 p62 p113 p172 y146 y147 f148 lx207 lx208 lx209 lx210 lx211 lx212 lx213 lx214 lx215 lx216 = (F_Rea_decimalText t0_0 t0_1 t0_2 t0_3 t0_4 t0_5 t0_6 t0_7 t0_8 t0_9 t1_0 t2_0 t3_0 t3_1 t4_0) from Eq.trans (by rw [F_Rea_decimalText_J50.eq_1, if_pos c245, if_neg c288, if_pos c291]) hR240), (show True ∧ S_Rea_decimalText_J94 t0_0 t0_1 t0_2 t0_3 t0_4 t0_5 t0_6 t0_7 t0_8 t0_9 t1_0 t2_0 t3_0 t3_1 t4_0 p62 p113 p172 y146 y147 f148 lx207 lx208 lx209 lx210 lx211 lx212 lx213 lx214 lx215 lx216 from (by have h := hS241; rw [S_Rea_decimalText_J50.eq_1] at h; rw [if_pos c245] at h; rw [if_neg c288] at h; rw [if_pos c291] at h; with_reducible exact h))⟩
              ·
                have b293 : q_F (0 < y146.toInt) := (q_nleI c291)
                refine lv_iconst (v := 1) hx hb d_10_3_90 (by decide) ?_
                refine lv_goto (tgt := 95) hx hb d_10_3_91 (by decide) ?_
                exact J254 ((1 : Int32)) _ _ _ w239 ⟨(show q_F (0 ≤ 1) from (show 0 ≤ 1 from by omega)), (show q_F (1 ≤ 1) from (show 1 ≤ 1 from by omega)), (show q_F (1 ≤ lx211.toInt) from (show 1 ≤ lx211.toInt from by have t1 : 0 ≤ y87.toInt := b93; have t2 : y87.toInt ≤ y139.toInt := b159; have t3 : y139.toInt ≤ lx211.toInt := i229; have t4 : lx211.toInt ≠ 0 := b290; omega)), (show q_F (1 ≤ y146.toInt) from (show 1 ≤ y146.toInt from by have t1 : 0 < y146.toInt := b293; omega)), V, q_lw hl (q_lw1 0 rfl q_lw0), (show F_Rea_decimalText_J95 t0_0 t0_1 t0_2 t0_3 t0_4 t0_5 t0_6 t0_7 t0_8 t0_9 t1_0 t2_0 t3_0 t3_1 t4_0 p62 p113 p172 y146 y147 f148 lx207 lx208 lx209 lx210 lx211 lx212 lx213 lx214 lx215 lx216 1 = (F_Rea_decimalText t0_0 t0_1 t0_2 t0_3 t0_4 t0_5 t0_6 t0_7 t0_8 t0_9 t1_0 t2_0 t3_0 t3_1 t4_0) from Eq.trans (by rw [F_Rea_decimalText_J50.eq_1, if_pos c245, if_neg c288, if_neg c291]) hR240), (show True ∧ S_Rea_decimalText_J95 t0_0 t0_1 t0_2 t0_3 t0_4 t0_5 t0_6 t0_7 t0_8 t0_9 t1_0 t2_0 t3_0 t3_1 t4_0 p62 p113 p172 y146 y147 f148 lx207 lx208 lx209 lx210 lx211 lx212 lx213 lx214 lx215 lx216 1 from (by have h := hS241; rw [S_Rea_decimalText_J50.eq_1] at h; rw [if_pos c245] at h; rw [if_neg c288] at h; rw [if_neg c291] at h; with_reducible exact h))⟩
      ·
        refine lv_iconst (v := 0) hx hb d_10_3_61 (by decide) ?_
        exact q_reti C0 V (⟨hI, hF, lx207, lx208, lx209, lx210, lx211, lx212, lx213, lx214, lx215, lx216, y146, y147, f148, hO217, hO220, hA221, (show (0 : Int32).toInt ≤ 2 from (by have z15 : (0 : Int32).toInt = 0 := rfl; omega)), (show lx211.toInt ≤ 1 from (by have z15 : (0 : Int32).toInt = 0 := rfl; have t1 : y87.toInt ≤ 1 := b94; have t2 : y139.toInt ≤ y87.toInt := b160; have t3 : lx211.toInt ≤ y139.toInt := i230; omega)), (show 0 ≤ lx213.toInt from (by have z15 : (0 : Int32).toInt = 0 := rfl; have t1 : 0 ≤ y147.toInt := b150; have t2 : y147.toInt ≤ y141.toInt := b165; have t3 : y141.toInt ≤ lx213.toInt := i233; omega)), (show 0 ≤ lx215.toInt from (by have z15 : (0 : Int32).toInt = 0 := rfl; have t1 : 0 ≤ y147.toInt := b150; have t2 : y147.toInt ≤ y143.toInt := b166; have t3 : y143.toInt ≤ lx215.toInt := i237; omega)), (show lx215.toInt ≤ 1 from (by have z15 : (0 : Int32).toInt = 0 := rfl; have t1 : y147.toInt ≤ 0 := b151; have t2 : y143.toInt ≤ y147.toInt + 1 := b167; have t3 : lx215.toInt ≤ y143.toInt := i238; omega)), (show y146.toInt ≤ 4100 from (by have z15 : (0 : Int32).toInt = 0 := rfl; have t1 : y147.toInt ≤ 0 := b151; have t2 : y146.toInt ≤ y147.toInt + 4100 := b169; omega)), (show 0 ≤ y147.toInt from (by have z15 : (0 : Int32).toInt = 0 := rfl; have t1 : 0 ≤ y147.toInt := b150; omega)), (show t0_1.toInt ≤ lx208.toInt from (by have z15 : (0 : Int32).toInt = 0 := rfl; have t1 : t0_1.toInt ≤ y31.toInt := b44; have t2 : y31.toInt ≤ y84.toInt := b97; have t3 : y84.toInt ≤ y136.toInt := b154; have t4 : y136.toInt ≤ lx208.toInt := i225; omega)), (show lx208.toInt ≤ t0_1.toInt from (by have z15 : (0 : Int32).toInt = 0 := rfl; have t1 : y31.toInt ≤ t0_1.toInt := b45; have t2 : y84.toInt ≤ y31.toInt := b98; have t3 : y136.toInt ≤ y84.toInt := b155; have t4 : lx208.toInt ≤ y136.toInt := i226; omega)), (show t1_0.toInt ≤ lx210.toInt from (by have z15 : (0 : Int32).toInt = 0 := rfl; have t1 : t1_0.toInt ≤ y33.toInt := b46; have t2 : y33.toInt ≤ y86.toInt := b99; have t3 : y86.toInt ≤ y138.toInt := b157; have t4 : y138.toInt ≤ lx210.toInt := i227; omega)), (show lx210.toInt ≤ t1_0.toInt from (by have z15 : (0 : Int32).toInt = 0 := rfl; have t1 : y33.toInt ≤ t1_0.toInt := b47; have t2 : y86.toInt ≤ y33.toInt := b100; have t3 : y138.toInt ≤ y86.toInt := b158; have t4 : lx210.toInt ≤ y138.toInt := i228; omega)), (show y147.toInt ≤ (0 : Int32).toInt from (by have z15 : (0 : Int32).toInt = 0 := rfl; have t1 : y147.toInt ≤ 0 := b151; omega)), (show y147.toInt ≤ lx211.toInt from (by have z15 : (0 : Int32).toInt = 0 := rfl; have t1 : 0 ≤ y87.toInt := b93; have t2 : y147.toInt ≤ 0 := b151; have t3 : y87.toInt ≤ y139.toInt := b159; have t4 : y139.toInt ≤ lx211.toInt := i229; omega)), (show y147.toInt ≤ y146.toInt from (by have z15 : (0 : Int32).toInt = 0 := rfl; have t1 : y147.toInt ≤ y146.toInt := b168; omega)), (show ((0 : Int32), lx207, lx208, lx209, lx210, lx211, lx212, lx213, lx214, lx215, lx216, y146, y147, f148) = (F_Rea_decimalText t0_0 t0_1 t0_2 t0_3 t0_4 t0_5 t0_6 t0_7 t0_8 t0_9 t1_0 t2_0 t3_0 t3_1 t4_0) from Eq.trans (by rw [F_Rea_decimalText_J50.eq_1, if_neg c245]) hR240)⟩) d_10_3_62
    ·
      intro J222
      refine lv_icmp_ne (tgt := 50) hx hb d_10_3_36 (by decide) (fun c295 => ?_) (fun c295 => ?_)
      ·
        exact J222 ((y135 : Int64), (y136 : Int64), (y137 : Int32), (y138 : Int32), (y139 : Int32), (y140 : Int32), (y141 : Int32), (y142 : Int32), (y143 : Int32), (0 : Int64)) _ _ _ _ ⟨(show q_F (y135.toInt ≤ y135.toInt) from (show y135.toInt ≤ y135.toInt from by omega)), (show q_F (y135.toInt ≤ y135.toInt) from (show y135.toInt ≤ y135.toInt from by omega)), (show q_F (y136.toInt ≤ y136.toInt) from (show y136.toInt ≤ y136.toInt from by omega)), (show q_F (y136.toInt ≤ y136.toInt) from (show y136.toInt ≤ y136.toInt from by omega)), (show q_F (y138.toInt ≤ y138.toInt) from (show y138.toInt ≤ y138.toInt from by omega)), (show q_F (y138.toInt ≤ y138.toInt) from (show y138.toInt ≤ y138.toInt from by omega)), (show q_F (y139.toInt ≤ y139.toInt) from (show y139.toInt ≤ y139.toInt from by omega)), (show q_F (y139.toInt ≤ y139.toInt) from (show y139.toInt ≤ y139.toInt from by omega)), (show q_F (y140.toInt ≤ y140.toInt) from (show y140.toInt ≤ y140.toInt from by omega)), (show q_F (y140.toInt ≤ y140.toInt) from (show y140.toInt ≤ y140.toInt from by omega)), (show q_F (y141.toInt ≤ y141.toInt) from (show y141.toInt ≤ y141.toInt from by omega)), (show q_F (y141.toInt ≤ y141.toInt) from (show y141.toInt ≤ y141.toInt from by omega)), (show q_F (y142.toInt ≤ y142.toInt) from (show y142.toInt ≤ y142.toInt from by omega)), (show q_F (y142.toInt ≤ y142.toInt) from (show y142.toInt ≤ y142.toInt from by omega)), (show q_F (y143.toInt ≤ y143.toInt) from (show y143.toInt ≤ y143.toInt from by omega)), (show q_F (y143.toInt ≤ y143.toInt) from (show y143.toInt ≤ y143.toInt from by omega)), V, q_lw hl (q_lw1 0 rfl q_lw0), hI, hF, hO134, hT1, hT2, hO145, hA149, (show F_Rea_decimalText_J50 t0_0 t0_1 t0_2 t0_3 t0_4 t0_5 t0_6 t0_7 t0_8 t0_9 t1_0 t2_0 t3_0 t3_1 t4_0 p62 p113 p172 y146 y147 f148 y135 y136 y137 y138 y139 y140 y141 y142 y143 0 = (F_Rea_decimalText t0_0 t0_1 t0_2 t0_3 t0_4 t0_5 t0_6 t0_7 t0_8 t0_9 t1_0 t2_0 t3_0 t3_1 t4_0) from Eq.trans (by have c193x := c193; rw [e174] at c193x; have c295x := c295; rw [← e206, e204, e183, e182, e181, e180, e179, e178, e177, e176, e175] at c295x; rw [e187, e186, e185, e183, e182, e181, e180, e179, e178, e177, e176, e175, F_Rea_decimalText_c14.eq_1, if_neg c193x, if_neg c295x]) hR188), (show True ∧ S_Rea_decimalText_J50 t0_0 t0_1 t0_2 t0_3 t0_4 t0_5 t0_6 t0_7 t0_8 t0_9 t1_0 t2_0 t3_0 t3_1 t4_0 p62 p113 p172 y146 y147 f148 y135 y136 y137 y138 y139 y140 y141 y142 y143 0 from (by rw [e187, e186, e185, e183, e182, e181, e180, e179, e178, e177, e176, e175]; have h := hS189; rw [S_Rea_decimalText_c14.eq_1] at h; have c193x := c193; rw [e174] at c193x; rw [if_neg c193x] at h; replace h := q_s2 h; have c295x := c295; rw [← e206, e204, e183, e182, e181, e180, e179, e178, e177, e176, e175] at c295x; rw [if_neg c295x] at h; with_reducible exact h))⟩
      ·
        refine lv_aload_n hx hb d_10_3_39 rfl (lv_at hl 0 rfl) ?_
        refine lv_bipush (v := 10) hx hb d_10_3_40 (by decide) ?_
        have ob298 : True ∧ S_Rea_takeExponent (10 : Int32) y135 y136 y137 y138 y139 y140 y141 y142 y143 (0 : Int64) t1_0 t2_0 := (by rw [e183, e182, e181, e180, e179, e178, e177, e176, e175]; have h := hS189; rw [S_Rea_decimalText_c14.eq_1] at h; have c193x := c193; rw [e174] at c193x; rw [if_neg c193x] at h; replace h := q_s2 h; have c295x := c295; rw [← e206, e204, e183, e182, e181, e180, e179, e178, e177, e176, e175] at c295x; rw [if_pos c295x] at h; with_reducible exact h.2.1)
        refine q_goi V (q_runV (As := [.int 10]) (rest := []) (d := 4) (mc := 0) (ms := 0) (ci := 8) C0 V rfl LV_Rea_73 (X_Rea_takeExponent l D g q w195  10 hI y135 y136 y137 y138 y139 y140 y141 y142 y143 0 hO134 t1_0 hT1 t2_0 hT2 ob298 _) rfl rfl hO134 rfl hl.1 rfl (Nat.le_of_ble_eq_true rfl) ⟨by decide, by decide⟩ ⟨Nat.le_of_ble_eq_true rfl, Nat.le_of_ble_eq_true rfl⟩ d_10_3_42) (fun a301 u299 H locs hp300 V => ?_)
        obtain ⟨hI, hZ9⟩ := hp300
        obtain ⟨hu332, hZ9⟩ := hZ9
        obtain ⟨y303, hZ9⟩ := hZ9
        obtain ⟨y304, hZ9⟩ := hZ9
        obtain ⟨y305, hZ9⟩ := hZ9
        obtain ⟨y306, hZ9⟩ := hZ9
        obtain ⟨y307, hZ9⟩ := hZ9
        obtain ⟨y308, hZ9⟩ := hZ9
        obtain ⟨y309, hZ9⟩ := hZ9
        obtain ⟨y310, hZ9⟩ := hZ9
        obtain ⟨y311, hZ9⟩ := hZ9
        obtain ⟨y312, hZ9⟩ := hZ9
        obtain ⟨hO302, hZ9⟩ := hZ9
        replace hZ9 := hZ9.2.2
        obtain ⟨b315, hZ9⟩ := hZ9
        obtain ⟨b316, hZ9⟩ := hZ9
        obtain ⟨b317, hZ9⟩ := hZ9
        obtain ⟨b318, hZ9⟩ := hZ9
        obtain ⟨b319, hZ9⟩ := hZ9
        obtain ⟨b320, hZ9⟩ := hZ9
        obtain ⟨b321, hZ9⟩ := hZ9
        obtain ⟨b322, hZ9⟩ := hZ9
        obtain ⟨b323, hZ9⟩ := hZ9
        obtain ⟨b324, hZ9⟩ := hZ9
        obtain ⟨b325, hZ9⟩ := hZ9
        obtain ⟨b326, hZ9⟩ := hZ9
        obtain ⟨b327, hZ9⟩ := hZ9
        obtain ⟨b328, hZ9⟩ := hZ9
        obtain ⟨b329, hZ9⟩ := hZ9
        obtain ⟨b330, hE331⟩ := hZ9
        replace hO302 : u299[38]? = (some (q 38, .inr (8, [.long y303, .long y304, .ref (q 1), .ref (q 9), .int y305, .int y306, .int y307, .int y308, .int y309, .int y310, .int y311, .long y312])) : Option (Nat × va_E)) := hO302
        obtain ⟨p333, e334⟩ : ∃ z, z = (F_Rea_takeExponent (10 : Int32) y135 y136 y137 y138 y139 y140 y141 y142 y143 (0 : Int64) t1_0 t2_0) := ⟨_, rfl⟩
        have e335 : a301 = p333.1 := congrArg (fun z => z.1) (hE331.trans e334.symm)
        have e336 : y303 = p333.2.1 := congrArg (fun z => z.2.1) (hE331.trans e334.symm)
        have e337 : y304 = p333.2.2.1 := congrArg (fun z => z.2.2.1) (hE331.trans e334.symm)
        have e338 : y305 = p333.2.2.2.1 := congrArg (fun z => z.2.2.2.1) (hE331.trans e334.symm)
        have e339 : y306 = p333.2.2.2.2.1 := congrArg (fun z => z.2.2.2.2.1) (hE331.trans e334.symm)
        have e340 : y307 = p333.2.2.2.2.2.1 := congrArg (fun z => z.2.2.2.2.2.1) (hE331.trans e334.symm)
        have e341 : y308 = p333.2.2.2.2.2.2.1 := congrArg (fun z => z.2.2.2.2.2.2.1) (hE331.trans e334.symm)
        have e342 : y309 = p333.2.2.2.2.2.2.2.1 := congrArg (fun z => z.2.2.2.2.2.2.2.1) (hE331.trans e334.symm)
        have e343 : y310 = p333.2.2.2.2.2.2.2.2.1 := congrArg (fun z => z.2.2.2.2.2.2.2.2.1) (hE331.trans e334.symm)
        have e344 : y311 = p333.2.2.2.2.2.2.2.2.2.1 := congrArg (fun z => z.2.2.2.2.2.2.2.2.2.1) (hE331.trans e334.symm)
        have e345 : y312 = p333.2.2.2.2.2.2.2.2.2.2 := congrArg (fun z => z.2.2.2.2.2.2.2.2.2.2) (hE331.trans e334.symm)
        replace b315 : q_F (y135.toInt ≤ y303.toInt) := b315
        replace b316 : q_F (y303.toInt ≤ y135.toInt) := b316
        replace b317 : q_F (y136.toInt ≤ y304.toInt) := b317
        replace b318 : q_F (y304.toInt ≤ y136.toInt) := b318
        replace b319 : q_F (y138.toInt ≤ y306.toInt) := b319
        replace b320 : q_F (y306.toInt ≤ y138.toInt) := b320
        replace b321 : q_F (y139.toInt ≤ y307.toInt) := b321
        replace b322 : q_F (y307.toInt ≤ y139.toInt) := b322
        replace b323 : q_F (y140.toInt ≤ y308.toInt) := b323
        replace b324 : q_F (y308.toInt ≤ y140.toInt) := b324
        replace b325 : q_F (y141.toInt ≤ y309.toInt) := b325
        replace b326 : q_F (y309.toInt ≤ y141.toInt) := b326
        replace b327 : q_F (y142.toInt ≤ y310.toInt) := b327
        replace b328 : q_F (y310.toInt ≤ y142.toInt) := b328
        replace b329 : q_F (y143.toInt ≤ y311.toInt) := b329
        replace b330 : q_F (y311.toInt ≤ y143.toInt) := b330
        replace hT1 := (hu332 _ (by decide)).trans hT1
        replace hT2 := (hu332 _ (by decide)).trans hT2
        replace hO145 := (hu332 _ (by decide)).trans hO145
        replace hA149 := (hu332 _ (by decide)).trans hA149
        replace hF := q_uc hF hu332 (by simp)
        have hR346 := (show F_Rea_decimalText_c42 t0_0 t0_1 t0_2 t0_3 t0_4 t0_5 t0_6 t0_7 t0_8 t0_9 t1_0 t2_0 t3_0 t3_1 t4_0 p62 p113 p172 y146 y147 f148 p333 = (F_Rea_decimalText t0_0 t0_1 t0_2 t0_3 t0_4 t0_5 t0_6 t0_7 t0_8 t0_9 t1_0 t2_0 t3_0 t3_1 t4_0) from Eq.trans (by have c193x := c193; rw [e174] at c193x; have c295x := c295; rw [← e206, e204, e183, e182, e181, e180, e179, e178, e177, e176, e175] at c295x; rw [e334, e187, e186, e185, e183, e182, e181, e180, e179, e178, e177, e176, e175, F_Rea_decimalText_c14.eq_1, if_neg c193x, if_pos c295x]) hR188)
        have hS347 := (show True ∧ S_Rea_decimalText_c42 t0_0 t0_1 t0_2 t0_3 t0_4 t0_5 t0_6 t0_7 t0_8 t0_9 t1_0 t2_0 t3_0 t3_1 t4_0 p62 p113 p172 y146 y147 f148 p333 from (by rw [e334, e187, e186, e185, e183, e182, e181, e180, e179, e178, e177, e176, e175]; have h := hS189; rw [S_Rea_decimalText_c14.eq_1] at h; have c193x := c193; rw [e174] at c193x; rw [if_neg c193x] at h; replace h := q_s2 h; have c295x := c295; rw [← e206, e204, e183, e182, e181, e180, e179, e178, e177, e176, e175] at c295x; rw [if_pos c295x] at h; replace h := q_s2 h; with_reducible exact h))
        refine lv_if_ne (tgt := 50) hx hb d_10_3_45 (by decide) (fun c351 => ?_) (fun c351 => ?_)
        ·
          exact J222 ((y303 : Int64), (y304 : Int64), (y305 : Int32), (y306 : Int32), (y307 : Int32), (y308 : Int32), (y309 : Int32), (y310 : Int32), (y311 : Int32), (y312 : Int64)) _ _ _ _ ⟨(show q_F (y135.toInt ≤ y303.toInt) from (show y135.toInt ≤ y303.toInt from by have t1 : y135.toInt ≤ y303.toInt := b315; omega)), (show q_F (y303.toInt ≤ y135.toInt) from (show y303.toInt ≤ y135.toInt from by have t1 : y303.toInt ≤ y135.toInt := b316; omega)), (show q_F (y136.toInt ≤ y304.toInt) from (show y136.toInt ≤ y304.toInt from by have t1 : y136.toInt ≤ y304.toInt := b317; omega)), (show q_F (y304.toInt ≤ y136.toInt) from (show y304.toInt ≤ y136.toInt from by have t1 : y304.toInt ≤ y136.toInt := b318; omega)), (show q_F (y138.toInt ≤ y306.toInt) from (show y138.toInt ≤ y306.toInt from by have t1 : y138.toInt ≤ y306.toInt := b319; omega)), (show q_F (y306.toInt ≤ y138.toInt) from (show y306.toInt ≤ y138.toInt from by have t1 : y306.toInt ≤ y138.toInt := b320; omega)), (show q_F (y139.toInt ≤ y307.toInt) from (show y139.toInt ≤ y307.toInt from by have t1 : y139.toInt ≤ y307.toInt := b321; omega)), (show q_F (y307.toInt ≤ y139.toInt) from (show y307.toInt ≤ y139.toInt from by have t1 : y307.toInt ≤ y139.toInt := b322; omega)), (show q_F (y140.toInt ≤ y308.toInt) from (show y140.toInt ≤ y308.toInt from by have t1 : y140.toInt ≤ y308.toInt := b323; omega)), (show q_F (y308.toInt ≤ y140.toInt) from (show y308.toInt ≤ y140.toInt from by have t1 : y308.toInt ≤ y140.toInt := b324; omega)), (show q_F (y141.toInt ≤ y309.toInt) from (show y141.toInt ≤ y309.toInt from by have t1 : y141.toInt ≤ y309.toInt := b325; omega)), (show q_F (y309.toInt ≤ y141.toInt) from (show y309.toInt ≤ y141.toInt from by have t1 : y309.toInt ≤ y141.toInt := b326; omega)), (show q_F (y142.toInt ≤ y310.toInt) from (show y142.toInt ≤ y310.toInt from by have t1 : y142.toInt ≤ y310.toInt := b327; omega)), (show q_F (y310.toInt ≤ y142.toInt) from (show y310.toInt ≤ y142.toInt from by have t1 : y310.toInt ≤ y142.toInt := b328; omega)), (show q_F (y143.toInt ≤ y311.toInt) from (show y143.toInt ≤ y311.toInt from by have t1 : y143.toInt ≤ y311.toInt := b329; omega)), (show q_F (y311.toInt ≤ y143.toInt) from (show y311.toInt ≤ y143.toInt from by have t1 : y311.toInt ≤ y143.toInt := b330; omega)), V, q_lw hl (q_lw1 0 rfl q_lw0), hI, hF, hO302, hT1, hT2, hO145, hA149, (show F_Rea_decimalText_J50 t0_0 t0_1 t0_2 t0_3 t0_4 t0_5 t0_6 t0_7 t0_8 t0_9 t1_0 t2_0 t3_0 t3_1 t4_0 p62 p113 p172 y146 y147 f148 y303 y304 y305 y306 y307 y308 y309 y310 y311 y312 = (F_Rea_decimalText t0_0 t0_1 t0_2 t0_3 t0_4 t0_5 t0_6 t0_7 t0_8 t0_9 t1_0 t2_0 t3_0 t3_1 t4_0) from Eq.trans (by have c351x := c351; rw [e335] at c351x; rw [e345, e344, e343, e342, e341, e340, e339, e338, e337, e336, F_Rea_decimalText_c42.eq_1, if_neg c351x]) hR346), (show True ∧ S_Rea_decimalText_J50 t0_0 t0_1 t0_2 t0_3 t0_4 t0_5 t0_6 t0_7 t0_8 t0_9 t1_0 t2_0 t3_0 t3_1 t4_0 p62 p113 p172 y146 y147 f148 y303 y304 y305 y306 y307 y308 y309 y310 y311 y312 from (by rw [e345, e344, e343, e342, e341, e340, e339, e338, e337, e336]; have h := hS347; rw [S_Rea_decimalText_c42.eq_1] at h; have c351x := c351; rw [e335] at c351x; rw [if_neg c351x] at h; with_reducible exact h))⟩
        ·
          refine lv_iconst (v := 0) hx hb d_10_3_48 (by decide) ?_
          exact q_reti C0 V (⟨hI, hF, y303, y304, y305, y306, y307, y308, y309, y310, y311, y312, y146, y147, f148, hO302, hO145, hA149, (show (0 : Int32).toInt ≤ 2 from (by have z15 : (0 : Int32).toInt = 0 := rfl; omega)), (show y307.toInt ≤ 1 from (by have z15 : (0 : Int32).toInt = 0 := rfl; have t1 : y87.toInt ≤ 1 := b94; have t2 : y139.toInt ≤ y87.toInt := b160; have t3 : y307.toInt ≤ y139.toInt := b322; omega)), (show 0 ≤ y309.toInt from (by have z15 : (0 : Int32).toInt = 0 := rfl; have t1 : 0 ≤ y147.toInt := b150; have t2 : y147.toInt ≤ y141.toInt := b165; have t3 : y141.toInt ≤ y309.toInt := b325; omega)), (show 0 ≤ y311.toInt from (by have z15 : (0 : Int32).toInt = 0 := rfl; have t1 : 0 ≤ y147.toInt := b150; have t2 : y147.toInt ≤ y143.toInt := b166; have t3 : y143.toInt ≤ y311.toInt := b329; omega)), (show y311.toInt ≤ 1 from (by have z15 : (0 : Int32).toInt = 0 := rfl; have t1 : y147.toInt ≤ 0 := b151; have t2 : y143.toInt ≤ y147.toInt + 1 := b167; have t3 : y311.toInt ≤ y143.toInt := b330; omega)), (show y146.toInt ≤ 4100 from (by have z15 : (0 : Int32).toInt = 0 := rfl; have t1 : y147.toInt ≤ 0 := b151; have t2 : y146.toInt ≤ y147.toInt + 4100 := b169; omega)), (show 0 ≤ y147.toInt from (by have z15 : (0 : Int32).toInt = 0 := rfl; have t1 : 0 ≤ y147.toInt := b150; omega)), (show t0_1.toInt ≤ y304.toInt from (by have z15 : (0 : Int32).toInt = 0 := rfl; have t1 : t0_1.toInt ≤ y31.toInt := b44; have t2 : y31.toInt ≤ y84.toInt := b97; have t3 : y84.toInt ≤ y136.toInt := b154; have t4 : y136.toInt ≤ y304.toInt := b317; omega)), (show y304.toInt ≤ t0_1.toInt from (by have z15 : (0 : Int32).toInt = 0 := rfl; have t1 : y31.toInt ≤ t0_1.toInt := b45; have t2 : y84.toInt ≤ y31.toInt := b98; have t3 : y136.toInt ≤ y84.toInt := b155; have t4 : y304.toInt ≤ y136.toInt := b318; omega)), (show t1_0.toInt ≤ y306.toInt from (by have z15 : (0 : Int32).toInt = 0 := rfl; have t1 : t1_0.toInt ≤ y33.toInt := b46; have t2 : y33.toInt ≤ y86.toInt := b99; have t3 : y86.toInt ≤ y138.toInt := b157; have t4 : y138.toInt ≤ y306.toInt := b319; omega)), (show y306.toInt ≤ t1_0.toInt from (by have z15 : (0 : Int32).toInt = 0 := rfl; have t1 : y33.toInt ≤ t1_0.toInt := b47; have t2 : y86.toInt ≤ y33.toInt := b100; have t3 : y138.toInt ≤ y86.toInt := b158; have t4 : y306.toInt ≤ y138.toInt := b320; omega)), (show y147.toInt ≤ (0 : Int32).toInt from (by have z15 : (0 : Int32).toInt = 0 := rfl; have t1 : y147.toInt ≤ 0 := b151; omega)), (show y147.toInt ≤ y307.toInt from (by have z15 : (0 : Int32).toInt = 0 := rfl; have t1 : 0 ≤ y87.toInt := b93; have t2 : y147.toInt ≤ 0 := b151; have t3 : y87.toInt ≤ y139.toInt := b159; have t4 : y139.toInt ≤ y307.toInt := b321; omega)), (show y147.toInt ≤ y146.toInt from (by have z15 : (0 : Int32).toInt = 0 := rfl; have t1 : y147.toInt ≤ y146.toInt := b168; omega)), (show ((0 : Int32), y303, y304, y305, y306, y307, y308, y309, y310, y311, y312, y146, y147, f148) = (F_Rea_decimalText t0_0 t0_1 t0_2 t0_3 t0_4 t0_5 t0_6 t0_7 t0_8 t0_9 t1_0 t2_0 t3_0 t3_1 t4_0) from Eq.trans (by have c351x := c351; rw [e335] at c351x; rw [e345, e344, e343, e342, e341, e340, e339, e338, e337, e336, F_Rea_decimalText_c42.eq_1, if_pos c351x]) hR346)⟩) d_10_3_49
  ·
    refine lv_iconst (v := 0) hx hb d_10_3_20 (by decide) ?_
    exact q_reti C0 V (⟨hI, hF, y135, y136, y137, y138, y139, y140, y141, y142, y143, y144, y146, y147, f148, hO134, hO145, hA149, (show (0 : Int32).toInt ≤ 2 from (by have z15 : (0 : Int32).toInt = 0 := rfl; omega)), (show y139.toInt ≤ 1 from (by have z15 : (0 : Int32).toInt = 0 := rfl; have t1 : y87.toInt ≤ 1 := b94; have t2 : y139.toInt ≤ y87.toInt := b160; omega)), (show 0 ≤ y141.toInt from (by have z15 : (0 : Int32).toInt = 0 := rfl; have t1 : 0 ≤ y147.toInt := b150; have t2 : y147.toInt ≤ y141.toInt := b165; omega)), (show 0 ≤ y143.toInt from (by have z15 : (0 : Int32).toInt = 0 := rfl; have t1 : 0 ≤ y147.toInt := b150; have t2 : y147.toInt ≤ y143.toInt := b166; omega)), (show y143.toInt ≤ 1 from (by have z15 : (0 : Int32).toInt = 0 := rfl; have t1 : y147.toInt ≤ 0 := b151; have t2 : y143.toInt ≤ y147.toInt + 1 := b167; omega)), (show y146.toInt ≤ 4100 from (by have z15 : (0 : Int32).toInt = 0 := rfl; have t1 : y147.toInt ≤ 0 := b151; have t2 : y146.toInt ≤ y147.toInt + 4100 := b169; omega)), (show 0 ≤ y147.toInt from (by have z15 : (0 : Int32).toInt = 0 := rfl; have t1 : 0 ≤ y147.toInt := b150; omega)), (show t0_1.toInt ≤ y136.toInt from (by have z15 : (0 : Int32).toInt = 0 := rfl; have t1 : t0_1.toInt ≤ y31.toInt := b44; have t2 : y31.toInt ≤ y84.toInt := b97; have t3 : y84.toInt ≤ y136.toInt := b154; omega)), (show y136.toInt ≤ t0_1.toInt from (by have z15 : (0 : Int32).toInt = 0 := rfl; have t1 : y31.toInt ≤ t0_1.toInt := b45; have t2 : y84.toInt ≤ y31.toInt := b98; have t3 : y136.toInt ≤ y84.toInt := b155; omega)), (show t1_0.toInt ≤ y138.toInt from (by have z15 : (0 : Int32).toInt = 0 := rfl; have t1 : t1_0.toInt ≤ y33.toInt := b46; have t2 : y33.toInt ≤ y86.toInt := b99; have t3 : y86.toInt ≤ y138.toInt := b157; omega)), (show y138.toInt ≤ t1_0.toInt from (by have z15 : (0 : Int32).toInt = 0 := rfl; have t1 : y33.toInt ≤ t1_0.toInt := b47; have t2 : y86.toInt ≤ y33.toInt := b100; have t3 : y138.toInt ≤ y86.toInt := b158; omega)), (show y147.toInt ≤ (0 : Int32).toInt from (by have z15 : (0 : Int32).toInt = 0 := rfl; have t1 : y147.toInt ≤ 0 := b151; omega)), (show y147.toInt ≤ y139.toInt from (by have z15 : (0 : Int32).toInt = 0 := rfl; have t1 : 0 ≤ y87.toInt := b93; have t2 : y147.toInt ≤ 0 := b151; have t3 : y87.toInt ≤ y139.toInt := b159; omega)), (show y147.toInt ≤ y146.toInt from (by have z15 : (0 : Int32).toInt = 0 := rfl; have t1 : y147.toInt ≤ y146.toInt := b168; omega)), (show ((0 : Int32), y135, y136, y137, y138, y139, y140, y141, y142, y143, y144, y146, y147, f148) = (F_Rea_decimalText t0_0 t0_1 t0_2 t0_3 t0_4 t0_5 t0_6 t0_7 t0_8 t0_9 t1_0 t2_0 t3_0 t3_1 t4_0) from Eq.trans (by have c193x := c193; rw [e174] at c193x; rw [e187, e186, e185, e184, e183, e182, e181, e180, e179, e178, e177, e176, e175, F_Rea_decimalText_c14.eq_1, if_pos c193x]) hR188)⟩) d_10_3_21
theorem d_10_4_0 : decode prog_10_method_4_code 0 = .ok (.aload_n 0, 1) := by decide +kernel
theorem d_10_4_1 : decode prog_10_method_4_code 1 = .ok (.invokevirtual 19, 3) := by decide +kernel
theorem d_10_4_4 : decode prog_10_method_4_code 4 = .ok (.aload_n 0, 1) := by decide +kernel
theorem d_10_4_5 : decode prog_10_method_4_code 5 = .ok (.invokevirtual 86, 3) := by decide +kernel
set_option maxRecDepth 100000 in
theorem w_649 : (Cond.code ({ cls := "NumberHouse$Reader", name := "trimBlanks", desc := "()V" } : MethodName) prog_10_method_10_code (1 : Nat) (none : Option ClassFile.FieldType)) ∈ q_tbl := q_of3 169 rfl (by decide +kernel)
set_option maxRecDepth 100000 in
theorem w_646 : (Cond.methodLink "NumberHouse$Reader" (86 : Nat) ({ cls := "NumberHouse$Reader", name := "trimBlanks", desc := "()V" } : MethodName)) ∈ q_tbl := q_of3 166 rfl (by decide +kernel)
set_option maxRecDepth 100000 in
theorem w_648 : (Cond.instanceMethod ({ cls := "NumberHouse$Reader", name := "trimBlanks", desc := "()V" } : MethodName)) ∈ q_tbl := q_of3 168 rfl (by decide +kernel)
theorem ws_9 : Cond.selects "NumberHouse$Reader" (⟨"NumberHouse$Reader", "trimBlanks", "()V"⟩ : MethodName) (⟨"NumberHouse$Reader", "trimBlanks", "()V"⟩ : MethodName) ∈ q_tbl := q_ofs 9 (by decide +kernel) (by decide +kernel)
theorem LV_Rea_86 : q_LV "NumberHouse$Reader" 86 y_Rea_trimBlanks prog_10_method_10_code 1 none 0 := ⟨w_649, w_10, w_646, w_648, ws_9, ⟨by decide, by decide, by decide +kernel⟩⟩
theorem d_10_4_8 : decode prog_10_method_4_code 8 = .ok (.aload_n 0, 1) := by decide +kernel
theorem d_10_4_9 : decode prog_10_method_4_code 9 = .ok (.invokevirtual 22, 3) := by decide +kernel
theorem d_10_4_12 : decode prog_10_method_4_code 12 = .ok (.aload_n 0, 1) := by decide +kernel
theorem d_10_4_13 : decode prog_10_method_4_code 13 = .ok (.ldc 89, 2) := by decide +kernel
theorem d_10_4_15 : decode prog_10_method_4_code 15 = .ok (.invokevirtual 91, 3) := by decide +kernel
set_option maxRecDepth 100000 in
theorem w_654 : (Cond.code ({ cls := "NumberHouse$Reader", name := "saysRest", desc := "(Ljava/lang/String;)Z" } : MethodName) prog_10_method_15_code (3 : Nat) (some .boolean)) ∈ q_tbl := q_of3 174 rfl (by decide +kernel)
set_option maxRecDepth 100000 in
theorem w_651 : (Cond.methodLink "NumberHouse$Reader" (91 : Nat) ({ cls := "NumberHouse$Reader", name := "saysRest", desc := "(Ljava/lang/String;)Z" } : MethodName)) ∈ q_tbl := q_of3 171 rfl (by decide +kernel)
set_option maxRecDepth 100000 in
theorem w_653 : (Cond.instanceMethod ({ cls := "NumberHouse$Reader", name := "saysRest", desc := "(Ljava/lang/String;)Z" } : MethodName)) ∈ q_tbl := q_of3 173 rfl (by decide +kernel)
theorem ws_10 : Cond.selects "NumberHouse$Reader" (⟨"NumberHouse$Reader", "saysRest", "(Ljava/lang/String;)Z"⟩ : MethodName) (⟨"NumberHouse$Reader", "saysRest", "(Ljava/lang/String;)Z"⟩ : MethodName) ∈ q_tbl := q_ofs 10 (by decide +kernel) (by decide +kernel)
theorem LV_Rea_91 : q_LV "NumberHouse$Reader" 91 y_Rea_saysRest prog_10_method_15_code 3 (some .boolean) 1 := ⟨w_654, w_10, w_651, w_653, ws_10, ⟨by decide, by decide, by decide +kernel⟩⟩
theorem d_10_4_18 : decode prog_10_method_4_code 18 = .ok (.ifCond .eq 13, 3) := by decide +kernel
theorem d_10_4_31 : decode prog_10_method_4_code 31 = .ok (.aload_n 1, 1) := by decide +kernel
theorem d_10_4_32 : decode prog_10_method_4_code 32 = .ok (.aload_n 0, 1) := by decide +kernel
theorem d_10_4_33 : decode prog_10_method_4_code 33 = .ok (.getfield 54, 3) := by decide +kernel
theorem d_10_4_36 : decode prog_10_method_4_code 36 = .ok (.invokevirtual 104, 3) := by decide +kernel
set_option maxRecDepth 100000 in
theorem w_711 : (Cond.methodLink "NumberHouse$Reader" (104 : Nat) ({ cls := "NumberHouse$Floats", name := "signBit", desc := "(Z)J" } : MethodName)) ∈ q_tbl := q_of3 231 rfl (by decide +kernel)
theorem LV_Rea_104 : q_LV "NumberHouse$Reader" 104 y_Flo_signBit prog_7_method_8_code 2 (some .long) 1 := ⟨w_714, w_8, w_711, w_712, w_713, ⟨by decide, by decide, by decide +kernel⟩⟩
theorem d_10_4_39 : decode prog_10_method_4_code 39 = .ok (.lstore_n 2, 1) := by decide +kernel
theorem d_10_4_40 : decode prog_10_method_4_code 40 = .ok (.aload_n 0, 1) := by decide +kernel
theorem d_10_4_41 : decode prog_10_method_4_code 41 = .ok (.ldc 108, 2) := by decide +kernel
theorem d_10_4_43 : decode prog_10_method_4_code 43 = .ok (.invokevirtual 91, 3) := by decide +kernel
theorem d_10_4_46 : decode prog_10_method_4_code 46 = .ok (.ifCond .eq 15, 3) := by decide +kernel
theorem d_10_4_61 : decode prog_10_method_4_code 61 = .ok (.aload_n 0, 1) := by decide +kernel
theorem d_10_4_62 : decode prog_10_method_4_code 62 = .ok (.invokevirtual 113, 3) := by decide +kernel
set_option maxRecDepth 100000 in
theorem w_720 : (Cond.code ({ cls := "NumberHouse$Reader", name := "takeHexadecimalMark", desc := "()Z" } : MethodName) prog_10_method_5_code (2 : Nat) (some .boolean)) ∈ q_tbl := q_of4 0 rfl (by decide +kernel)
set_option maxRecDepth 100000 in
theorem w_717 : (Cond.methodLink "NumberHouse$Reader" (113 : Nat) ({ cls := "NumberHouse$Reader", name := "takeHexadecimalMark", desc := "()Z" } : MethodName)) ∈ q_tbl := q_of3 237 rfl (by decide +kernel)
set_option maxRecDepth 100000 in
theorem w_719 : (Cond.instanceMethod ({ cls := "NumberHouse$Reader", name := "takeHexadecimalMark", desc := "()Z" } : MethodName)) ∈ q_tbl := q_of3 239 rfl (by decide +kernel)
theorem ws_11 : Cond.selects "NumberHouse$Reader" (⟨"NumberHouse$Reader", "takeHexadecimalMark", "()Z"⟩ : MethodName) (⟨"NumberHouse$Reader", "takeHexadecimalMark", "()Z"⟩ : MethodName) ∈ q_tbl := q_ofs 11 (by decide +kernel) (by decide +kernel)
theorem LV_Rea_113 : q_LV "NumberHouse$Reader" 113 y_Rea_takeHexadecimalMark prog_10_method_5_code 2 (some .boolean) 0 := ⟨w_720, w_10, w_717, w_719, ws_11, ⟨by decide, by decide, by decide +kernel⟩⟩
theorem d_10_4_65 : decode prog_10_method_4_code 65 = .ok (.istore 4, 2) := by decide +kernel
theorem d_10_4_67 : decode prog_10_method_4_code 67 = .ok (.iload 4, 2) := by decide +kernel
theorem d_10_4_89 : decode prog_10_method_4_code 89 = .ok (.aload_n 0, 1) := by decide +kernel
theorem d_10_4_90 : decode prog_10_method_4_code 90 = .ok (.invokevirtual 123, 3) := by decide +kernel
set_option maxRecDepth 100000 in
theorem w_732 : (Cond.code ({ cls := "NumberHouse$Reader", name := "takeEnding", desc := "()Z" } : MethodName) prog_10_method_8_code (2 : Nat) (some .boolean)) ∈ q_tbl := q_of4 12 rfl (by decide +kernel)
set_option maxRecDepth 100000 in
theorem w_729 : (Cond.methodLink "NumberHouse$Reader" (123 : Nat) ({ cls := "NumberHouse$Reader", name := "takeEnding", desc := "()Z" } : MethodName)) ∈ q_tbl := q_of4 9 rfl (by decide +kernel)
set_option maxRecDepth 100000 in
theorem w_731 : (Cond.instanceMethod ({ cls := "NumberHouse$Reader", name := "takeEnding", desc := "()Z" } : MethodName)) ∈ q_tbl := q_of4 11 rfl (by decide +kernel)
theorem ws_14 : Cond.selects "NumberHouse$Reader" (⟨"NumberHouse$Reader", "takeEnding", "()Z"⟩ : MethodName) (⟨"NumberHouse$Reader", "takeEnding", "()Z"⟩ : MethodName) ∈ q_tbl := q_ofs 14 (by decide +kernel) (by decide +kernel)
theorem LV_Rea_123 : q_LV "NumberHouse$Reader" 123 y_Rea_takeEnding prog_10_method_8_code 2 (some .boolean) 0 := ⟨w_732, w_10, w_729, w_731, ws_14, ⟨by decide, by decide, by decide +kernel⟩⟩
theorem d_10_4_93 : decode prog_10_method_4_code 93 = .ok (.ifCond .ne 5, 3) := by decide +kernel
theorem d_10_4_98 : decode prog_10_method_4_code 98 = .ok (.iload 4, 2) := by decide +kernel
theorem d_10_4_100 : decode prog_10_method_4_code 100 = .ok (.ifCond .eq 46, 3) := by decide +kernel
theorem d_10_4_146 : decode prog_10_method_4_code 146 = .ok (.aload_n 0, 1) := by decide +kernel
theorem d_10_4_147 : decode prog_10_method_4_code 147 = .ok (.aload_n 1, 1) := by decide +kernel
theorem d_10_4_148 : decode prog_10_method_4_code 148 = .ok (.aload_n 0, 1) := by decide +kernel
theorem d_10_4_149 : decode prog_10_method_4_code 149 = .ok (.getfield 15, 3) := by decide +kernel
theorem d_10_4_152 : decode prog_10_method_4_code 152 = .ok (.getfield 25, 3) := by decide +kernel
theorem d_10_4_155 : decode prog_10_method_4_code 155 = .ok (.aload_n 0, 1) := by decide +kernel
theorem d_10_4_156 : decode prog_10_method_4_code 156 = .ok (.getfield 77, 3) := by decide +kernel
theorem d_10_4_159 : decode prog_10_method_4_code 159 = .ok (.aload_n 0, 1) := by decide +kernel
theorem d_10_4_160 : decode prog_10_method_4_code 160 = .ok (.getfield 83, 3) := by decide +kernel
theorem d_10_4_163 : decode prog_10_method_4_code 163 = .ok (.isub, 1) := by decide +kernel
theorem d_10_4_164 : decode prog_10_method_4_code 164 = .ok (.i2l, 1) := by decide +kernel
theorem d_10_4_165 : decode prog_10_method_4_code 165 = .ok (.aload_n 0, 1) := by decide +kernel
theorem d_10_4_166 : decode prog_10_method_4_code 166 = .ok (.getfield 66, 3) := by decide +kernel
theorem d_10_4_169 : decode prog_10_method_4_code 169 = .ok (.lsub, 1) := by decide +kernel
theorem d_10_4_170 : decode prog_10_method_4_code 170 = .ok (.invokevirtual 135, 3) := by decide +kernel
set_option maxRecDepth 100000 in
theorem w_758 : (Cond.code ({ cls := "NumberHouse$Floats", name := "nearestDecimal", desc := "(LNumberHouse$Big;J)J" } : MethodName) prog_7_method_18_code (9 : Nat) (some .long)) ∈ q_tbl := q_of4 38 rfl (by decide +kernel)
set_option maxRecDepth 100000 in
theorem w_755 : (Cond.methodLink "NumberHouse$Reader" (135 : Nat) ({ cls := "NumberHouse$Floats", name := "nearestDecimal", desc := "(LNumberHouse$Big;J)J" } : MethodName)) ∈ q_tbl := q_of4 35 rfl (by decide +kernel)
set_option maxRecDepth 100000 in
theorem w_756 : (Cond.instanceMethod ({ cls := "NumberHouse$Floats", name := "nearestDecimal", desc := "(LNumberHouse$Big;J)J" } : MethodName)) ∈ q_tbl := q_of4 36 rfl (by decide +kernel)
set_option maxRecDepth 100000 in
theorem w_757 : (Cond.selects "NumberHouse$Floats" ({ cls := "NumberHouse$Floats", name := "nearestDecimal", desc := "(LNumberHouse$Big;J)J" } : MethodName) ({ cls := "NumberHouse$Floats", name := "nearestDecimal", desc := "(LNumberHouse$Big;J)J" } : MethodName)) ∈ q_tbl := q_of4 37 rfl (by decide +kernel)
theorem LV_Rea_135 : q_LV "NumberHouse$Reader" 135 y_Flo_nearestDecimal prog_7_method_18_code 9 (some .long) 2 := ⟨w_758, w_8, w_755, w_756, w_757, ⟨by decide, by decide, by decide +kernel⟩⟩
theorem d_10_4_173 : decode prog_10_method_4_code 173 = .ok (.lload_n 2, 1) := by decide +kernel
theorem d_10_4_174 : decode prog_10_method_4_code 174 = .ok (.lor, 1) := by decide +kernel
theorem d_10_4_175 : decode prog_10_method_4_code 175 = .ok (.putfield 101, 3) := by decide +kernel
set_option maxRecDepth 100000 in
theorem w_286 : (Cond.fieldLink "NumberHouse$Reader" (101 : Nat) "NumberHouse$Reader" "bits" "J") ∈ q_tbl := q_of2 46 rfl (by decide +kernel)
theorem d_10_4_178 : decode prog_10_method_4_code 178 = .ok (.iconst 1, 1) := by decide +kernel
theorem d_10_4_179 : decode prog_10_method_4_code 179 = .ok (.ireturn, 1) := by decide +kernel
theorem d_10_4_103 : decode prog_10_method_4_code 103 = .ok (.aload_n 0, 1) := by decide +kernel
theorem d_10_4_104 : decode prog_10_method_4_code 104 = .ok (.aload_n 1, 1) := by decide +kernel
theorem d_10_4_105 : decode prog_10_method_4_code 105 = .ok (.aload_n 0, 1) := by decide +kernel
theorem d_10_4_106 : decode prog_10_method_4_code 106 = .ok (.getfield 15, 3) := by decide +kernel
theorem d_10_4_109 : decode prog_10_method_4_code 109 = .ok (.getfield 25, 3) := by decide +kernel
theorem d_10_4_112 : decode prog_10_method_4_code 112 = .ok (.aload_n 0, 1) := by decide +kernel
theorem d_10_4_113 : decode prog_10_method_4_code 113 = .ok (.getfield 66, 3) := by decide +kernel
theorem d_10_4_116 : decode prog_10_method_4_code 116 = .ok (.ldc2_w 126, 3) := by decide +kernel
set_option maxRecDepth 100000 in
theorem w_733 : (Cond.constantLong "NumberHouse$Reader" (126 : Nat) (4 : Int64)) ∈ q_tbl := q_of4 13 rfl (by decide +kernel)
theorem d_10_4_119 : decode prog_10_method_4_code 119 = .ok (.aload_n 0, 1) := by decide +kernel
theorem d_10_4_120 : decode prog_10_method_4_code 120 = .ok (.getfield 83, 3) := by decide +kernel
theorem d_10_4_123 : decode prog_10_method_4_code 123 = .ok (.aload_n 0, 1) := by decide +kernel
theorem d_10_4_124 : decode prog_10_method_4_code 124 = .ok (.getfield 77, 3) := by decide +kernel
theorem d_10_4_127 : decode prog_10_method_4_code 127 = .ok (.isub, 1) := by decide +kernel
theorem d_10_4_128 : decode prog_10_method_4_code 128 = .ok (.i2l, 1) := by decide +kernel
theorem d_10_4_129 : decode prog_10_method_4_code 129 = .ok (.lmul, 1) := by decide +kernel
theorem d_10_4_130 : decode prog_10_method_4_code 130 = .ok (.ladd, 1) := by decide +kernel
theorem d_10_4_131 : decode prog_10_method_4_code 131 = .ok (.aload_n 0, 1) := by decide +kernel
theorem d_10_4_132 : decode prog_10_method_4_code 132 = .ok (.getfield 128, 3) := by decide +kernel
theorem d_10_4_135 : decode prog_10_method_4_code 135 = .ok (.invokevirtual 131, 3) := by decide +kernel
set_option maxRecDepth 100000 in
theorem w_734 : (Cond.methodLink "NumberHouse$Reader" (131 : Nat) ({ cls := "NumberHouse$Floats", name := "nearest", desc := "(LNumberHouse$Big;JZ)J" } : MethodName)) ∈ q_tbl := q_of4 14 rfl (by decide +kernel)
theorem LV_Rea_131 : q_LV "NumberHouse$Reader" 131 y_Flo_nearest prog_7_method_17_code 12 (some .long) 3 := ⟨w_737, w_8, w_734, w_735, w_736, ⟨by decide, by decide, by decide +kernel⟩⟩
theorem d_10_4_138 : decode prog_10_method_4_code 138 = .ok (.lload_n 2, 1) := by decide +kernel
theorem d_10_4_139 : decode prog_10_method_4_code 139 = .ok (.lor, 1) := by decide +kernel
theorem d_10_4_140 : decode prog_10_method_4_code 140 = .ok (.putfield 101, 3) := by decide +kernel
theorem d_10_4_143 : decode prog_10_method_4_code 143 = .ok (.goto 35, 3) := by decide +kernel
theorem d_10_4_96 : decode prog_10_method_4_code 96 = .ok (.iconst 0, 1) := by decide +kernel
theorem d_10_4_97 : decode prog_10_method_4_code 97 = .ok (.ireturn, 1) := by decide +kernel
theorem d_10_4_69 : decode prog_10_method_4_code 69 = .ok (.ifCond .eq 13, 3) := by decide +kernel
theorem d_10_4_82 : decode prog_10_method_4_code 82 = .ok (.aload_n 0, 1) := by decide +kernel
theorem d_10_4_83 : decode prog_10_method_4_code 83 = .ok (.invokevirtual 120, 3) := by decide +kernel
set_option maxRecDepth 100000 in
theorem w_728 : (Cond.code ({ cls := "NumberHouse$Reader", name := "takeDecimal", desc := "()Z" } : MethodName) prog_10_method_7_code (1 : Nat) (some .boolean)) ∈ q_tbl := q_of4 8 rfl (by decide +kernel)
set_option maxRecDepth 100000 in
theorem w_725 : (Cond.methodLink "NumberHouse$Reader" (120 : Nat) ({ cls := "NumberHouse$Reader", name := "takeDecimal", desc := "()Z" } : MethodName)) ∈ q_tbl := q_of4 5 rfl (by decide +kernel)
set_option maxRecDepth 100000 in
theorem w_727 : (Cond.instanceMethod ({ cls := "NumberHouse$Reader", name := "takeDecimal", desc := "()Z" } : MethodName)) ∈ q_tbl := q_of4 7 rfl (by decide +kernel)
theorem ws_13 : Cond.selects "NumberHouse$Reader" (⟨"NumberHouse$Reader", "takeDecimal", "()Z"⟩ : MethodName) (⟨"NumberHouse$Reader", "takeDecimal", "()Z"⟩ : MethodName) ∈ q_tbl := q_ofs 13 (by decide +kernel) (by decide +kernel)
theorem LV_Rea_120 : q_LV "NumberHouse$Reader" 120 y_Rea_takeDecimal prog_10_method_7_code 1 (some .boolean) 0 := ⟨w_728, w_10, w_725, w_727, ws_13, ⟨by decide, by decide, by decide +kernel⟩⟩
theorem d_10_4_86 : decode prog_10_method_4_code 86 = .ok (.ifCond .eq 10, 3) := by decide +kernel
theorem d_10_4_72 : decode prog_10_method_4_code 72 = .ok (.aload_n 0, 1) := by decide +kernel
theorem d_10_4_73 : decode prog_10_method_4_code 73 = .ok (.invokevirtual 117, 3) := by decide +kernel
set_option maxRecDepth 100000 in
theorem w_724 : (Cond.code ({ cls := "NumberHouse$Reader", name := "takeHexadecimal", desc := "()Z" } : MethodName) prog_10_method_6_code (1 : Nat) (some .boolean)) ∈ q_tbl := q_of4 4 rfl (by decide +kernel)
set_option maxRecDepth 100000 in
theorem w_721 : (Cond.methodLink "NumberHouse$Reader" (117 : Nat) ({ cls := "NumberHouse$Reader", name := "takeHexadecimal", desc := "()Z" } : MethodName)) ∈ q_tbl := q_of4 1 rfl (by decide +kernel)
set_option maxRecDepth 100000 in
theorem w_723 : (Cond.instanceMethod ({ cls := "NumberHouse$Reader", name := "takeHexadecimal", desc := "()Z" } : MethodName)) ∈ q_tbl := q_of4 3 rfl (by decide +kernel)
theorem ws_12 : Cond.selects "NumberHouse$Reader" (⟨"NumberHouse$Reader", "takeHexadecimal", "()Z"⟩ : MethodName) (⟨"NumberHouse$Reader", "takeHexadecimal", "()Z"⟩ : MethodName) ∈ q_tbl := q_ofs 12 (by decide +kernel) (by decide +kernel)
theorem LV_Rea_117 : q_LV "NumberHouse$Reader" 117 y_Rea_takeHexadecimal prog_10_method_6_code 1 (some .boolean) 0 := ⟨w_724, w_10, w_721, w_723, ws_12, ⟨by decide, by decide, by decide +kernel⟩⟩
theorem d_10_4_76 : decode prog_10_method_4_code 76 = .ok (.ifCond .eq 20, 3) := by decide +kernel
theorem d_10_4_79 : decode prog_10_method_4_code 79 = .ok (.goto 10, 3) := by decide +kernel
theorem d_10_4_49 : decode prog_10_method_4_code 49 = .ok (.aload_n 0, 1) := by decide +kernel
theorem d_10_4_50 : decode prog_10_method_4_code 50 = .ok (.aload_n 1, 1) := by decide +kernel
theorem d_10_4_51 : decode prog_10_method_4_code 51 = .ok (.invokevirtual 110, 3) := by decide +kernel
set_option maxRecDepth 100000 in
theorem w_716 : (Cond.methodLink "NumberHouse$Reader" (110 : Nat) ({ cls := "NumberHouse$Floats", name := "infinity", desc := "()J" } : MethodName)) ∈ q_tbl := q_of3 236 rfl (by decide +kernel)
theorem LV_Rea_110 : q_LV "NumberHouse$Reader" 110 y_Flo_infinity prog_7_method_9_code 1 (some .long) 0 := ⟨w_710, w_8, w_716, w_708, w_709, ⟨by decide, by decide, by decide +kernel⟩⟩
theorem d_10_4_54 : decode prog_10_method_4_code 54 = .ok (.lload_n 2, 1) := by decide +kernel
theorem d_10_4_55 : decode prog_10_method_4_code 55 = .ok (.lor, 1) := by decide +kernel
theorem d_10_4_56 : decode prog_10_method_4_code 56 = .ok (.putfield 101, 3) := by decide +kernel
theorem d_10_4_59 : decode prog_10_method_4_code 59 = .ok (.iconst 1, 1) := by decide +kernel
theorem d_10_4_60 : decode prog_10_method_4_code 60 = .ok (.ireturn, 1) := by decide +kernel
theorem d_10_4_21 : decode prog_10_method_4_code 21 = .ok (.aload_n 0, 1) := by decide +kernel
theorem d_10_4_22 : decode prog_10_method_4_code 22 = .ok (.aload_n 1, 1) := by decide +kernel
theorem d_10_4_23 : decode prog_10_method_4_code 23 = .ok (.invokevirtual 95, 3) := by decide +kernel
set_option maxRecDepth 100000 in
theorem w_703 : (Cond.methodLink "NumberHouse$Reader" (95 : Nat) ({ cls := "NumberHouse$Floats", name := "noNumber", desc := "()J" } : MethodName)) ∈ q_tbl := q_of3 223 rfl (by decide +kernel)
theorem LV_Rea_95 : q_LV "NumberHouse$Reader" 95 y_Flo_noNumber prog_7_method_10_code 1 (some .long) 0 := ⟨w_706, w_8, w_703, w_704, w_705, ⟨by decide, by decide, by decide +kernel⟩⟩
theorem d_10_4_26 : decode prog_10_method_4_code 26 = .ok (.putfield 101, 3) := by decide +kernel
theorem d_10_4_29 : decode prog_10_method_4_code 29 = .ok (.iconst 1, 1) := by decide +kernel
theorem d_10_4_30 : decode prog_10_method_4_code 30 = .ok (.ireturn, 1) := by decide +kernel
def y_Rea_floatText : MethodName := ⟨"NumberHouse$Reader", "floatText", "(LNumberHouse$Floats;)I"⟩
def F_Rea_floatText_c170 (A : Int32) (B : Int32) (C : Int32) (t0_0 : Int64) (t0_1 : Int64) (t0_2 : Int32) (t0_3 : Int32) (t0_4 : Int32) (t0_5 : Int32) (t0_6 : Int32) (t0_7 : Int32) (t0_8 : Int32) (t0_9 : Int64) (t1_0 : Int32) (t2_0 : (Nat → Int64)) (t3_0 : Int32) (t3_1 : Int32) (t4_0 : (Nat → Int32)) (t5_0 : Int32) (t5_1 : Int32) (t6_0 : (Nat → Int32)) (t7_0 : Int32) (t7_1 : Int32) (t8_0 : (Nat → Int32)) (t9_0 : Int32) (t9_1 : Int32) (t10_0 : (Nat → Int32)) (t11_0 : Int32) (t11_1 : Int32) (t12_0 : (Nat → Int32)) (p94 : (Int64 × Int64 × Int32 × Int32 × Int32 × Int32 × Int32 × Int32 × Int32 × Int64)) (p145 : (Int64 × Int64 × Int32 × Int32 × Int32 × Int32 × Int32 × Int32 × Int32 × Int64)) (p196 : (Int64 × Int64 × Int32 × Int32 × Int32 × Int32 × Int32 × Int32 × Int32 × Int64)) (j229 : Int64) (p279 : (Int32 × Int64 × Int64 × Int32 × Int32 × Int32 × Int32 × Int32 × Int32 × Int32 × Int64)) (a245 : Int32) (lx297 : Int64) (lx298 : Int64) (lx299 : Int32) (lx300 : Int32) (lx301 : Int32) (lx302 : Int32) (lx303 : Int32) (lx304 : Int32) (lx305 : Int32) (lx306 : Int64) (lx307 : Int32) (lx308 : Int32) (lx309 : (Nat → Int32)) (p382 : (Int32 × Int64 × Int64 × Int32 × Int32 × Int32 × Int32 × Int32 × Int32 × Int32 × Int64)) (y350 : Int64) (y351 : Int64) (y352 : Int32) (y353 : Int32) (y354 : Int32) (y355 : Int32) (y356 : Int32) (y357 : Int32) (y358 : Int32) (y359 : Int64) (p458 : (Int64 × Int32 × Int32 × (Nat → Int32) × Int32 × Int32 × (Nat → Int32) × Int32 × Int32 × (Nat → Int32) × Int32 × Int32 × (Nat → Int32))) : Int32 × Int64 × Int64 × Int32 × Int32 × Int32 × Int32 × Int32 × Int32 × Int32 × Int64 × Int32 × Int32 × (Nat → Int32) × Int32 × Int32 × (Nat → Int32) × Int32 × Int32 × (Nat → Int32) × Int32 × Int32 × (Nat → Int32) × Int32 × Int32 × (Nat → Int32) := ((1 : Int32), y350, ((p458.1 : Int64) ||| j229 : Int64), y352, y353, y354, y355, y356, y357, y358, y359, lx307, lx308, lx309, (p458.2.1 : Int32), (p458.2.2.1 : Int32), (p458.2.2.2.1 : (Nat → Int32)), (p458.2.2.2.2.1 : Int32), (p458.2.2.2.2.2.1 : Int32), (p458.2.2.2.2.2.2.1 : (Nat → Int32)), (p458.2.2.2.2.2.2.2.1 : Int32), (p458.2.2.2.2.2.2.2.2.1 : Int32), (p458.2.2.2.2.2.2.2.2.2.1 : (Nat → Int32)), (p458.2.2.2.2.2.2.2.2.2.2.1 : Int32), (p458.2.2.2.2.2.2.2.2.2.2.2.1 : Int32), (p458.2.2.2.2.2.2.2.2.2.2.2.2 : (Nat → Int32)))
def F_Rea_floatText_c90 (A : Int32) (B : Int32) (C : Int32) (t0_0 : Int64) (t0_1 : Int64) (t0_2 : Int32) (t0_3 : Int32) (t0_4 : Int32) (t0_5 : Int32) (t0_6 : Int32) (t0_7 : Int32) (t0_8 : Int32) (t0_9 : Int64) (t1_0 : Int32) (t2_0 : (Nat → Int64)) (t3_0 : Int32) (t3_1 : Int32) (t4_0 : (Nat → Int32)) (t5_0 : Int32) (t5_1 : Int32) (t6_0 : (Nat → Int32)) (t7_0 : Int32) (t7_1 : Int32) (t8_0 : (Nat → Int32)) (t9_0 : Int32) (t9_1 : Int32) (t10_0 : (Nat → Int32)) (t11_0 : Int32) (t11_1 : Int32) (t12_0 : (Nat → Int32)) (p94 : (Int64 × Int64 × Int32 × Int32 × Int32 × Int32 × Int32 × Int32 × Int32 × Int64)) (p145 : (Int64 × Int64 × Int32 × Int32 × Int32 × Int32 × Int32 × Int32 × Int32 × Int64)) (p196 : (Int64 × Int64 × Int32 × Int32 × Int32 × Int32 × Int32 × Int32 × Int32 × Int64)) (j229 : Int64) (p279 : (Int32 × Int64 × Int64 × Int32 × Int32 × Int32 × Int32 × Int32 × Int32 × Int32 × Int64)) (a245 : Int32) (lx297 : Int64) (lx298 : Int64) (lx299 : Int32) (lx300 : Int32) (lx301 : Int32) (lx302 : Int32) (lx303 : Int32) (lx304 : Int32) (lx305 : Int32) (lx306 : Int64) (lx307 : Int32) (lx308 : Int32) (lx309 : (Nat → Int32)) (p382 : (Int32 × Int64 × Int64 × Int32 × Int32 × Int32 × Int32 × Int32 × Int32 × Int32 × Int64)) : Int32 × Int64 × Int64 × Int32 × Int32 × Int32 × Int32 × Int32 × Int32 × Int32 × Int64 × Int32 × Int32 × (Nat → Int32) × Int32 × Int32 × (Nat → Int32) × Int32 × Int32 × (Nat → Int32) × Int32 × Int32 × (Nat → Int32) × Int32 × Int32 × (Nat → Int32) := if (p382.1 : Int32) = (0 : Int32) then (((0 : Int32), (p382.2.1 : Int64), (p382.2.2.1 : Int64), (p382.2.2.2.1 : Int32), (p382.2.2.2.2.1 : Int32), (p382.2.2.2.2.2.1 : Int32), (p382.2.2.2.2.2.2.1 : Int32), (p382.2.2.2.2.2.2.2.1 : Int32), (p382.2.2.2.2.2.2.2.2.1 : Int32), (p382.2.2.2.2.2.2.2.2.2.1 : Int32), (p382.2.2.2.2.2.2.2.2.2.2 : Int64), lx307, lx308, lx309, t5_0, t5_1, t6_0, t7_0, t7_1, t8_0, t9_0, t9_1, t10_0, t11_0, t11_1, t12_0)) else (if a245 = (0 : Int32) then (F_Rea_floatText_c170 A B C t0_0 t0_1 t0_2 t0_3 t0_4 t0_5 t0_6 t0_7 t0_8 t0_9 t1_0 t2_0 t3_0 t3_1 t4_0 t5_0 t5_1 t6_0 t7_0 t7_1 t8_0 t9_0 t9_1 t10_0 t11_0 t11_1 t12_0 p94 p145 p196 j229 p279 a245 lx297 lx298 lx299 lx300 lx301 lx302 lx303 lx304 lx305 lx306 lx307 lx308 lx309 p382 (p382.2.1 : Int64) (p382.2.2.1 : Int64) (p382.2.2.2.1 : Int32) (p382.2.2.2.2.1 : Int32) (p382.2.2.2.2.2.1 : Int32) (p382.2.2.2.2.2.2.1 : Int32) (p382.2.2.2.2.2.2.2.1 : Int32) (p382.2.2.2.2.2.2.2.2.1 : Int32) (p382.2.2.2.2.2.2.2.2.2.1 : Int32) (p382.2.2.2.2.2.2.2.2.2.2 : Int64) ((F_Flo_nearestDecimal A B C (220 : Int32) ((((p382.2.2.2.2.2.2.1 : Int32) - (p382.2.2.2.2.2.2.2.2.1 : Int32) : Int32).toInt64 : Int64) - (p382.2.2.2.2.2.2.2.2.2.2 : Int64) : Int64) t5_0 t5_1 t6_0 t7_0 t7_1 t8_0 t9_0 t9_1 t10_0 t11_0 t11_1 t12_0 lx307 lx308 lx309) : (Int64 × Int32 × Int32 × (Nat → Int32) × Int32 × Int32 × (Nat → Int32) × Int32 × Int32 × (Nat → Int32) × Int32 × Int32 × (Nat → Int32)))) else (((1 : Int32), (p382.2.1 : Int64), (((F_Flo_nearest A B C (220 : Int32) ((p382.2.2.2.2.2.2.2.2.2.2 : Int64) + (4 * (((p382.2.2.2.2.2.2.2.2.1 : Int32) - (p382.2.2.2.2.2.2.1 : Int32) : Int32).toInt64 : Int64) : Int64) : Int64) (p382.2.2.2.2.2.2.2.2.2.1 : Int32) lx307 lx308 lx309) : Int64) ||| j229 : Int64), (p382.2.2.2.1 : Int32), (p382.2.2.2.2.1 : Int32), (p382.2.2.2.2.2.1 : Int32), (p382.2.2.2.2.2.2.1 : Int32), (p382.2.2.2.2.2.2.2.1 : Int32), (p382.2.2.2.2.2.2.2.2.1 : Int32), (p382.2.2.2.2.2.2.2.2.2.1 : Int32), (p382.2.2.2.2.2.2.2.2.2.2 : Int64), lx307, lx308, lx309, t5_0, t5_1, t6_0, t7_0, t7_1, t8_0, t9_0, t9_1, t10_0, t11_0, t11_1, t12_0)))
def F_Rea_floatText_J89 (A : Int32) (B : Int32) (C : Int32) (t0_0 : Int64) (t0_1 : Int64) (t0_2 : Int32) (t0_3 : Int32) (t0_4 : Int32) (t0_5 : Int32) (t0_6 : Int32) (t0_7 : Int32) (t0_8 : Int32) (t0_9 : Int64) (t1_0 : Int32) (t2_0 : (Nat → Int64)) (t3_0 : Int32) (t3_1 : Int32) (t4_0 : (Nat → Int32)) (t5_0 : Int32) (t5_1 : Int32) (t6_0 : (Nat → Int32)) (t7_0 : Int32) (t7_1 : Int32) (t8_0 : (Nat → Int32)) (t9_0 : Int32) (t9_1 : Int32) (t10_0 : (Nat → Int32)) (t11_0 : Int32) (t11_1 : Int32) (t12_0 : (Nat → Int32)) (p94 : (Int64 × Int64 × Int32 × Int32 × Int32 × Int32 × Int32 × Int32 × Int32 × Int64)) (p145 : (Int64 × Int64 × Int32 × Int32 × Int32 × Int32 × Int32 × Int32 × Int32 × Int64)) (p196 : (Int64 × Int64 × Int32 × Int32 × Int32 × Int32 × Int32 × Int32 × Int32 × Int64)) (j229 : Int64) (p279 : (Int32 × Int64 × Int64 × Int32 × Int32 × Int32 × Int32 × Int32 × Int32 × Int32 × Int64)) (a245 : Int32) (lx297 : Int64) (lx298 : Int64) (lx299 : Int32) (lx300 : Int32) (lx301 : Int32) (lx302 : Int32) (lx303 : Int32) (lx304 : Int32) (lx305 : Int32) (lx306 : Int64) (lx307 : Int32) (lx308 : Int32) (lx309 : (Nat → Int32)) : Int32 × Int64 × Int64 × Int32 × Int32 × Int32 × Int32 × Int32 × Int32 × Int32 × Int64 × Int32 × Int32 × (Nat → Int32) × Int32 × Int32 × (Nat → Int32) × Int32 × Int32 × (Nat → Int32) × Int32 × Int32 × (Nat → Int32) × Int32 × Int32 × (Nat → Int32) := F_Rea_floatText_c90 A B C t0_0 t0_1 t0_2 t0_3 t0_4 t0_5 t0_6 t0_7 t0_8 t0_9 t1_0 t2_0 t3_0 t3_1 t4_0 t5_0 t5_1 t6_0 t7_0 t7_1 t8_0 t9_0 t9_1 t10_0 t11_0 t11_1 t12_0 p94 p145 p196 j229 p279 a245 lx297 lx298 lx299 lx300 lx301 lx302 lx303 lx304 lx305 lx306 lx307 lx308 lx309 ((F_Rea_takeEnding lx297 lx298 lx299 lx300 lx301 lx302 lx303 lx304 lx305 lx306 t1_0 t2_0) : (Int32 × Int64 × Int64 × Int32 × Int32 × Int32 × Int32 × Int32 × Int32 × Int32 × Int64))
def F_Rea_floatText_c83 (A : Int32) (B : Int32) (C : Int32) (t0_0 : Int64) (t0_1 : Int64) (t0_2 : Int32) (t0_3 : Int32) (t0_4 : Int32) (t0_5 : Int32) (t0_6 : Int32) (t0_7 : Int32) (t0_8 : Int32) (t0_9 : Int64) (t1_0 : Int32) (t2_0 : (Nat → Int64)) (t3_0 : Int32) (t3_1 : Int32) (t4_0 : (Nat → Int32)) (t5_0 : Int32) (t5_1 : Int32) (t6_0 : (Nat → Int32)) (t7_0 : Int32) (t7_1 : Int32) (t8_0 : (Nat → Int32)) (t9_0 : Int32) (t9_1 : Int32) (t10_0 : (Nat → Int32)) (t11_0 : Int32) (t11_1 : Int32) (t12_0 : (Nat → Int32)) (p94 : (Int64 × Int64 × Int32 × Int32 × Int32 × Int32 × Int32 × Int32 × Int32 × Int64)) (p145 : (Int64 × Int64 × Int32 × Int32 × Int32 × Int32 × Int32 × Int32 × Int32 × Int64)) (p196 : (Int64 × Int64 × Int32 × Int32 × Int32 × Int32 × Int32 × Int32 × Int32 × Int64)) (j229 : Int64) (p279 : (Int32 × Int64 × Int64 × Int32 × Int32 × Int32 × Int32 × Int32 × Int32 × Int32 × Int64)) (a245 : Int32) (p553 : (Int32 × Int64 × Int64 × Int32 × Int32 × Int32 × Int32 × Int32 × Int32 × Int32 × Int64 × Int32 × Int32 × (Nat → Int32))) : Int32 × Int64 × Int64 × Int32 × Int32 × Int32 × Int32 × Int32 × Int32 × Int32 × Int64 × Int32 × Int32 × (Nat → Int32) × Int32 × Int32 × (Nat → Int32) × Int32 × Int32 × (Nat → Int32) × Int32 × Int32 × (Nat → Int32) × Int32 × Int32 × (Nat → Int32) := if (p553.1 : Int32) = (0 : Int32) then (((0 : Int32), (p553.2.1 : Int64), (p553.2.2.1 : Int64), (p553.2.2.2.1 : Int32), (p553.2.2.2.2.1 : Int32), (p553.2.2.2.2.2.1 : Int32), (p553.2.2.2.2.2.2.1 : Int32), (p553.2.2.2.2.2.2.2.1 : Int32), (p553.2.2.2.2.2.2.2.2.1 : Int32), (p553.2.2.2.2.2.2.2.2.2.1 : Int32), (p553.2.2.2.2.2.2.2.2.2.2.1 : Int64), (p553.2.2.2.2.2.2.2.2.2.2.2.1 : Int32), (p553.2.2.2.2.2.2.2.2.2.2.2.2.1 : Int32), (p553.2.2.2.2.2.2.2.2.2.2.2.2.2 : (Nat → Int32)), t5_0, t5_1, t6_0, t7_0, t7_1, t8_0, t9_0, t9_1, t10_0, t11_0, t11_1, t12_0)) else (F_Rea_floatText_J89 A B C t0_0 t0_1 t0_2 t0_3 t0_4 t0_5 t0_6 t0_7 t0_8 t0_9 t1_0 t2_0 t3_0 t3_1 t4_0 t5_0 t5_1 t6_0 t7_0 t7_1 t8_0 t9_0 t9_1 t10_0 t11_0 t11_1 t12_0 p94 p145 p196 j229 p279 a245 (p553.2.1 : Int64) (p553.2.2.1 : Int64) (p553.2.2.2.1 : Int32) (p553.2.2.2.2.1 : Int32) (p553.2.2.2.2.2.1 : Int32) (p553.2.2.2.2.2.2.1 : Int32) (p553.2.2.2.2.2.2.2.1 : Int32) (p553.2.2.2.2.2.2.2.2.1 : Int32) (p553.2.2.2.2.2.2.2.2.2.1 : Int32) (p553.2.2.2.2.2.2.2.2.2.2.1 : Int64) (p553.2.2.2.2.2.2.2.2.2.2.2.1 : Int32) (p553.2.2.2.2.2.2.2.2.2.2.2.2.1 : Int32) (p553.2.2.2.2.2.2.2.2.2.2.2.2.2 : (Nat → Int32)))
def F_Rea_floatText_c73 (A : Int32) (B : Int32) (C : Int32) (t0_0 : Int64) (t0_1 : Int64) (t0_2 : Int32) (t0_3 : Int32) (t0_4 : Int32) (t0_5 : Int32) (t0_6 : Int32) (t0_7 : Int32) (t0_8 : Int32) (t0_9 : Int64) (t1_0 : Int32) (t2_0 : (Nat → Int64)) (t3_0 : Int32) (t3_1 : Int32) (t4_0 : (Nat → Int32)) (t5_0 : Int32) (t5_1 : Int32) (t6_0 : (Nat → Int32)) (t7_0 : Int32) (t7_1 : Int32) (t8_0 : (Nat → Int32)) (t9_0 : Int32) (t9_1 : Int32) (t10_0 : (Nat → Int32)) (t11_0 : Int32) (t11_1 : Int32) (t12_0 : (Nat → Int32)) (p94 : (Int64 × Int64 × Int32 × Int32 × Int32 × Int32 × Int32 × Int32 × Int32 × Int64)) (p145 : (Int64 × Int64 × Int32 × Int32 × Int32 × Int32 × Int32 × Int32 × Int32 × Int64)) (p196 : (Int64 × Int64 × Int32 × Int32 × Int32 × Int32 × Int32 × Int32 × Int32 × Int64)) (j229 : Int64) (p279 : (Int32 × Int64 × Int64 × Int32 × Int32 × Int32 × Int32 × Int32 × Int32 × Int32 × Int64)) (a245 : Int32) (p617 : (Int32 × Int64 × Int64 × Int32 × Int32 × Int32 × Int32 × Int32 × Int32 × Int32 × Int64 × Int32 × Int32 × (Nat → Int32))) : Int32 × Int64 × Int64 × Int32 × Int32 × Int32 × Int32 × Int32 × Int32 × Int32 × Int64 × Int32 × Int32 × (Nat → Int32) × Int32 × Int32 × (Nat → Int32) × Int32 × Int32 × (Nat → Int32) × Int32 × Int32 × (Nat → Int32) × Int32 × Int32 × (Nat → Int32) := if (p617.1 : Int32) = (0 : Int32) then (((0 : Int32), (p617.2.1 : Int64), (p617.2.2.1 : Int64), (p617.2.2.2.1 : Int32), (p617.2.2.2.2.1 : Int32), (p617.2.2.2.2.2.1 : Int32), (p617.2.2.2.2.2.2.1 : Int32), (p617.2.2.2.2.2.2.2.1 : Int32), (p617.2.2.2.2.2.2.2.2.1 : Int32), (p617.2.2.2.2.2.2.2.2.2.1 : Int32), (p617.2.2.2.2.2.2.2.2.2.2.1 : Int64), (p617.2.2.2.2.2.2.2.2.2.2.2.1 : Int32), (p617.2.2.2.2.2.2.2.2.2.2.2.2.1 : Int32), (p617.2.2.2.2.2.2.2.2.2.2.2.2.2 : (Nat → Int32)), t5_0, t5_1, t6_0, t7_0, t7_1, t8_0, t9_0, t9_1, t10_0, t11_0, t11_1, t12_0)) else (F_Rea_floatText_J89 A B C t0_0 t0_1 t0_2 t0_3 t0_4 t0_5 t0_6 t0_7 t0_8 t0_9 t1_0 t2_0 t3_0 t3_1 t4_0 t5_0 t5_1 t6_0 t7_0 t7_1 t8_0 t9_0 t9_1 t10_0 t11_0 t11_1 t12_0 p94 p145 p196 j229 p279 a245 (p617.2.1 : Int64) (p617.2.2.1 : Int64) (p617.2.2.2.1 : Int32) (p617.2.2.2.2.1 : Int32) (p617.2.2.2.2.2.1 : Int32) (p617.2.2.2.2.2.2.1 : Int32) (p617.2.2.2.2.2.2.2.1 : Int32) (p617.2.2.2.2.2.2.2.2.1 : Int32) (p617.2.2.2.2.2.2.2.2.2.1 : Int32) (p617.2.2.2.2.2.2.2.2.2.2.1 : Int64) (p617.2.2.2.2.2.2.2.2.2.2.2.1 : Int32) (p617.2.2.2.2.2.2.2.2.2.2.2.2.1 : Int32) (p617.2.2.2.2.2.2.2.2.2.2.2.2.2 : (Nat → Int32)))
def F_Rea_floatText_c62 (A : Int32) (B : Int32) (C : Int32) (t0_0 : Int64) (t0_1 : Int64) (t0_2 : Int32) (t0_3 : Int32) (t0_4 : Int32) (t0_5 : Int32) (t0_6 : Int32) (t0_7 : Int32) (t0_8 : Int32) (t0_9 : Int64) (t1_0 : Int32) (t2_0 : (Nat → Int64)) (t3_0 : Int32) (t3_1 : Int32) (t4_0 : (Nat → Int32)) (t5_0 : Int32) (t5_1 : Int32) (t6_0 : (Nat → Int32)) (t7_0 : Int32) (t7_1 : Int32) (t8_0 : (Nat → Int32)) (t9_0 : Int32) (t9_1 : Int32) (t10_0 : (Nat → Int32)) (t11_0 : Int32) (t11_1 : Int32) (t12_0 : (Nat → Int32)) (p94 : (Int64 × Int64 × Int32 × Int32 × Int32 × Int32 × Int32 × Int32 × Int32 × Int64)) (p145 : (Int64 × Int64 × Int32 × Int32 × Int32 × Int32 × Int32 × Int32 × Int32 × Int64)) (p196 : (Int64 × Int64 × Int32 × Int32 × Int32 × Int32 × Int32 × Int32 × Int32 × Int64)) (j229 : Int64) (p279 : (Int32 × Int64 × Int64 × Int32 × Int32 × Int32 × Int32 × Int32 × Int32 × Int32 × Int64)) : Int32 × Int64 × Int64 × Int32 × Int32 × Int32 × Int32 × Int32 × Int32 × Int32 × Int64 × Int32 × Int32 × (Nat → Int32) × Int32 × Int32 × (Nat → Int32) × Int32 × Int32 × (Nat → Int32) × Int32 × Int32 × (Nat → Int32) × Int32 × Int32 × (Nat → Int32) := if (p279.1 : Int32) = (0 : Int32) then (F_Rea_floatText_c83 A B C t0_0 t0_1 t0_2 t0_3 t0_4 t0_5 t0_6 t0_7 t0_8 t0_9 t1_0 t2_0 t3_0 t3_1 t4_0 t5_0 t5_1 t6_0 t7_0 t7_1 t8_0 t9_0 t9_1 t10_0 t11_0 t11_1 t12_0 p94 p145 p196 j229 p279 (p279.1 : Int32) ((F_Rea_takeDecimal (p279.2.1 : Int64) (p279.2.2.1 : Int64) (p279.2.2.2.1 : Int32) (p279.2.2.2.2.1 : Int32) (p279.2.2.2.2.2.1 : Int32) (p279.2.2.2.2.2.2.1 : Int32) (p279.2.2.2.2.2.2.2.1 : Int32) (p279.2.2.2.2.2.2.2.2.1 : Int32) (p279.2.2.2.2.2.2.2.2.2.1 : Int32) (p279.2.2.2.2.2.2.2.2.2.2 : Int64) t1_0 t2_0 t3_0 t3_1 t4_0) : (Int32 × Int64 × Int64 × Int32 × Int32 × Int32 × Int32 × Int32 × Int32 × Int32 × Int64 × Int32 × Int32 × (Nat → Int32)))) else (F_Rea_floatText_c73 A B C t0_0 t0_1 t0_2 t0_3 t0_4 t0_5 t0_6 t0_7 t0_8 t0_9 t1_0 t2_0 t3_0 t3_1 t4_0 t5_0 t5_1 t6_0 t7_0 t7_1 t8_0 t9_0 t9_1 t10_0 t11_0 t11_1 t12_0 p94 p145 p196 j229 p279 (p279.1 : Int32) ((F_Rea_takeHexadecimal (p279.2.1 : Int64) (p279.2.2.1 : Int64) (p279.2.2.2.1 : Int32) (p279.2.2.2.2.1 : Int32) (p279.2.2.2.2.2.1 : Int32) (p279.2.2.2.2.2.2.1 : Int32) (p279.2.2.2.2.2.2.2.1 : Int32) (p279.2.2.2.2.2.2.2.2.1 : Int32) (p279.2.2.2.2.2.2.2.2.2.1 : Int32) (p279.2.2.2.2.2.2.2.2.2.2 : Int64) t1_0 t2_0 t3_0 t3_1 t4_0) : (Int32 × Int64 × Int64 × Int32 × Int32 × Int32 × Int32 × Int32 × Int32 × Int32 × Int64 × Int32 × Int32 × (Nat → Int32))))
def F_Rea_floatText_c9 (A : Int32) (B : Int32) (C : Int32) (t0_0 : Int64) (t0_1 : Int64) (t0_2 : Int32) (t0_3 : Int32) (t0_4 : Int32) (t0_5 : Int32) (t0_6 : Int32) (t0_7 : Int32) (t0_8 : Int32) (t0_9 : Int64) (t1_0 : Int32) (t2_0 : (Nat → Int64)) (t3_0 : Int32) (t3_1 : Int32) (t4_0 : (Nat → Int32)) (t5_0 : Int32) (t5_1 : Int32) (t6_0 : (Nat → Int32)) (t7_0 : Int32) (t7_1 : Int32) (t8_0 : (Nat → Int32)) (t9_0 : Int32) (t9_1 : Int32) (t10_0 : (Nat → Int32)) (t11_0 : Int32) (t11_1 : Int32) (t12_0 : (Nat → Int32)) (p94 : (Int64 × Int64 × Int32 × Int32 × Int32 × Int32 × Int32 × Int32 × Int32 × Int64)) (p145 : (Int64 × Int64 × Int32 × Int32 × Int32 × Int32 × Int32 × Int32 × Int32 × Int64)) (p196 : (Int64 × Int64 × Int32 × Int32 × Int32 × Int32 × Int32 × Int32 × Int32 × Int64)) : Int32 × Int64 × Int64 × Int32 × Int32 × Int32 × Int32 × Int32 × Int32 × Int32 × Int64 × Int32 × Int32 × (Nat → Int32) × Int32 × Int32 × (Nat → Int32) × Int32 × Int32 × (Nat → Int32) × Int32 × Int32 × (Nat → Int32) × Int32 × Int32 × (Nat → Int32) := if ((F_Rea_saysRest_20 (p196.1 : Int64) (p196.2.1 : Int64) (p196.2.2.1 : Int32) (p196.2.2.2.1 : Int32) (p196.2.2.2.2.1 : Int32) (p196.2.2.2.2.2.1 : Int32) (p196.2.2.2.2.2.2.1 : Int32) (p196.2.2.2.2.2.2.2.1 : Int32) (p196.2.2.2.2.2.2.2.2.1 : Int32) (p196.2.2.2.2.2.2.2.2.2 : Int64) t1_0 t2_0) : Int32) = (0 : Int32) then (if ((F_Rea_saysRest_21 (p196.1 : Int64) (p196.2.1 : Int64) (p196.2.2.1 : Int32) (p196.2.2.2.1 : Int32) (p196.2.2.2.2.1 : Int32) (p196.2.2.2.2.2.1 : Int32) (p196.2.2.2.2.2.2.1 : Int32) (p196.2.2.2.2.2.2.2.1 : Int32) (p196.2.2.2.2.2.2.2.2.1 : Int32) (p196.2.2.2.2.2.2.2.2.2 : Int64) t1_0 t2_0) : Int32) = (0 : Int32) then (F_Rea_floatText_c62 A B C t0_0 t0_1 t0_2 t0_3 t0_4 t0_5 t0_6 t0_7 t0_8 t0_9 t1_0 t2_0 t3_0 t3_1 t4_0 t5_0 t5_1 t6_0 t7_0 t7_1 t8_0 t9_0 t9_1 t10_0 t11_0 t11_1 t12_0 p94 p145 p196 ((F_Flo_signBit A B C (p196.2.2.2.2.1 : Int32)) : Int64) ((F_Rea_takeHexadecimalMark (p196.1 : Int64) (p196.2.1 : Int64) (p196.2.2.1 : Int32) (p196.2.2.2.1 : Int32) (p196.2.2.2.2.1 : Int32) (p196.2.2.2.2.2.1 : Int32) (p196.2.2.2.2.2.2.1 : Int32) (p196.2.2.2.2.2.2.2.1 : Int32) (p196.2.2.2.2.2.2.2.2.1 : Int32) (p196.2.2.2.2.2.2.2.2.2 : Int64) t1_0 t2_0) : (Int32 × Int64 × Int64 × Int32 × Int32 × Int32 × Int32 × Int32 × Int32 × Int32 × Int64))) else (((1 : Int32), (p196.1 : Int64), (((F_Flo_infinity A B C) : Int64) ||| ((F_Flo_signBit A B C (p196.2.2.2.2.1 : Int32)) : Int64) : Int64), (p196.2.2.1 : Int32), (p196.2.2.2.1 : Int32), (p196.2.2.2.2.1 : Int32), (p196.2.2.2.2.2.1 : Int32), (p196.2.2.2.2.2.2.1 : Int32), (p196.2.2.2.2.2.2.2.1 : Int32), (p196.2.2.2.2.2.2.2.2.1 : Int32), (p196.2.2.2.2.2.2.2.2.2 : Int64), t3_0, t3_1, t4_0, t5_0, t5_1, t6_0, t7_0, t7_1, t8_0, t9_0, t9_1, t10_0, t11_0, t11_1, t12_0))) else (((1 : Int32), (p196.1 : Int64), ((F_Flo_noNumber A B C) : Int64), (p196.2.2.1 : Int32), (p196.2.2.2.1 : Int32), (p196.2.2.2.2.1 : Int32), (p196.2.2.2.2.2.1 : Int32), (p196.2.2.2.2.2.2.1 : Int32), (p196.2.2.2.2.2.2.2.1 : Int32), (p196.2.2.2.2.2.2.2.2.1 : Int32), (p196.2.2.2.2.2.2.2.2.2 : Int64), t3_0, t3_1, t4_0, t5_0, t5_1, t6_0, t7_0, t7_1, t8_0, t9_0, t9_1, t10_0, t11_0, t11_1, t12_0))
def F_Rea_floatText_c5 (A : Int32) (B : Int32) (C : Int32) (t0_0 : Int64) (t0_1 : Int64) (t0_2 : Int32) (t0_3 : Int32) (t0_4 : Int32) (t0_5 : Int32) (t0_6 : Int32) (t0_7 : Int32) (t0_8 : Int32) (t0_9 : Int64) (t1_0 : Int32) (t2_0 : (Nat → Int64)) (t3_0 : Int32) (t3_1 : Int32) (t4_0 : (Nat → Int32)) (t5_0 : Int32) (t5_1 : Int32) (t6_0 : (Nat → Int32)) (t7_0 : Int32) (t7_1 : Int32) (t8_0 : (Nat → Int32)) (t9_0 : Int32) (t9_1 : Int32) (t10_0 : (Nat → Int32)) (t11_0 : Int32) (t11_1 : Int32) (t12_0 : (Nat → Int32)) (p94 : (Int64 × Int64 × Int32 × Int32 × Int32 × Int32 × Int32 × Int32 × Int32 × Int64)) (p145 : (Int64 × Int64 × Int32 × Int32 × Int32 × Int32 × Int32 × Int32 × Int32 × Int64)) : Int32 × Int64 × Int64 × Int32 × Int32 × Int32 × Int32 × Int32 × Int32 × Int32 × Int64 × Int32 × Int32 × (Nat → Int32) × Int32 × Int32 × (Nat → Int32) × Int32 × Int32 × (Nat → Int32) × Int32 × Int32 × (Nat → Int32) × Int32 × Int32 × (Nat → Int32) := F_Rea_floatText_c9 A B C t0_0 t0_1 t0_2 t0_3 t0_4 t0_5 t0_6 t0_7 t0_8 t0_9 t1_0 t2_0 t3_0 t3_1 t4_0 t5_0 t5_1 t6_0 t7_0 t7_1 t8_0 t9_0 t9_1 t10_0 t11_0 t11_1 t12_0 p94 p145 ((F_Rea_takeSign (p145.1 : Int64) (p145.2.1 : Int64) (p145.2.2.1 : Int32) (p145.2.2.2.1 : Int32) (p145.2.2.2.2.1 : Int32) (p145.2.2.2.2.2.1 : Int32) (p145.2.2.2.2.2.2.1 : Int32) (p145.2.2.2.2.2.2.2.1 : Int32) (p145.2.2.2.2.2.2.2.2.1 : Int32) (p145.2.2.2.2.2.2.2.2.2 : Int64) t1_0 t2_0) : (Int64 × Int64 × Int32 × Int32 × Int32 × Int32 × Int32 × Int32 × Int32 × Int64))
def F_Rea_floatText_c1 (A : Int32) (B : Int32) (C : Int32) (t0_0 : Int64) (t0_1 : Int64) (t0_2 : Int32) (t0_3 : Int32) (t0_4 : Int32) (t0_5 : Int32) (t0_6 : Int32) (t0_7 : Int32) (t0_8 : Int32) (t0_9 : Int64) (t1_0 : Int32) (t2_0 : (Nat → Int64)) (t3_0 : Int32) (t3_1 : Int32) (t4_0 : (Nat → Int32)) (t5_0 : Int32) (t5_1 : Int32) (t6_0 : (Nat → Int32)) (t7_0 : Int32) (t7_1 : Int32) (t8_0 : (Nat → Int32)) (t9_0 : Int32) (t9_1 : Int32) (t10_0 : (Nat → Int32)) (t11_0 : Int32) (t11_1 : Int32) (t12_0 : (Nat → Int32)) (p94 : (Int64 × Int64 × Int32 × Int32 × Int32 × Int32 × Int32 × Int32 × Int32 × Int64)) : Int32 × Int64 × Int64 × Int32 × Int32 × Int32 × Int32 × Int32 × Int32 × Int32 × Int64 × Int32 × Int32 × (Nat → Int32) × Int32 × Int32 × (Nat → Int32) × Int32 × Int32 × (Nat → Int32) × Int32 × Int32 × (Nat → Int32) × Int32 × Int32 × (Nat → Int32) := F_Rea_floatText_c5 A B C t0_0 t0_1 t0_2 t0_3 t0_4 t0_5 t0_6 t0_7 t0_8 t0_9 t1_0 t2_0 t3_0 t3_1 t4_0 t5_0 t5_1 t6_0 t7_0 t7_1 t8_0 t9_0 t9_1 t10_0 t11_0 t11_1 t12_0 p94 ((F_Rea_trimBlanks (p94.1 : Int64) (p94.2.1 : Int64) (p94.2.2.1 : Int32) (p94.2.2.2.1 : Int32) (p94.2.2.2.2.1 : Int32) (p94.2.2.2.2.2.1 : Int32) (p94.2.2.2.2.2.2.1 : Int32) (p94.2.2.2.2.2.2.2.1 : Int32) (p94.2.2.2.2.2.2.2.2.1 : Int32) (p94.2.2.2.2.2.2.2.2.2 : Int64) t1_0 t2_0) : (Int64 × Int64 × Int32 × Int32 × Int32 × Int32 × Int32 × Int32 × Int32 × Int64))
def F_Rea_floatText (A : Int32) (B : Int32) (C : Int32) (t0_0 : Int64) (t0_1 : Int64) (t0_2 : Int32) (t0_3 : Int32) (t0_4 : Int32) (t0_5 : Int32) (t0_6 : Int32) (t0_7 : Int32) (t0_8 : Int32) (t0_9 : Int64) (t1_0 : Int32) (t2_0 : (Nat → Int64)) (t3_0 : Int32) (t3_1 : Int32) (t4_0 : (Nat → Int32)) (t5_0 : Int32) (t5_1 : Int32) (t6_0 : (Nat → Int32)) (t7_0 : Int32) (t7_1 : Int32) (t8_0 : (Nat → Int32)) (t9_0 : Int32) (t9_1 : Int32) (t10_0 : (Nat → Int32)) (t11_0 : Int32) (t11_1 : Int32) (t12_0 : (Nat → Int32)) : Int32 × Int64 × Int64 × Int32 × Int32 × Int32 × Int32 × Int32 × Int32 × Int32 × Int64 × Int32 × Int32 × (Nat → Int32) × Int32 × Int32 × (Nat → Int32) × Int32 × Int32 × (Nat → Int32) × Int32 × Int32 × (Nat → Int32) × Int32 × Int32 × (Nat → Int32) := F_Rea_floatText_c1 A B C t0_0 t0_1 t0_2 t0_3 t0_4 t0_5 t0_6 t0_7 t0_8 t0_9 t1_0 t2_0 t3_0 t3_1 t4_0 t5_0 t5_1 t6_0 t7_0 t7_1 t8_0 t9_0 t9_1 t10_0 t11_0 t11_1 t12_0 ((F_Rea_begin t0_0 t0_1 t0_2 t0_3 t0_4 t0_5 t0_6 t0_7 t0_8 t0_9 t1_0 t2_0) : (Int64 × Int64 × Int32 × Int32 × Int32 × Int32 × Int32 × Int32 × Int32 × Int64))
def S_Rea_floatText_c170 (A : Int32) (B : Int32) (C : Int32) (t0_0 : Int64) (t0_1 : Int64) (t0_2 : Int32) (t0_3 : Int32) (t0_4 : Int32) (t0_5 : Int32) (t0_6 : Int32) (t0_7 : Int32) (t0_8 : Int32) (t0_9 : Int64) (t1_0 : Int32) (t2_0 : (Nat → Int64)) (t3_0 : Int32) (t3_1 : Int32) (t4_0 : (Nat → Int32)) (t5_0 : Int32) (t5_1 : Int32) (t6_0 : (Nat → Int32)) (t7_0 : Int32) (t7_1 : Int32) (t8_0 : (Nat → Int32)) (t9_0 : Int32) (t9_1 : Int32) (t10_0 : (Nat → Int32)) (t11_0 : Int32) (t11_1 : Int32) (t12_0 : (Nat → Int32)) (p94 : (Int64 × Int64 × Int32 × Int32 × Int32 × Int32 × Int32 × Int32 × Int32 × Int64)) (p145 : (Int64 × Int64 × Int32 × Int32 × Int32 × Int32 × Int32 × Int32 × Int32 × Int64)) (p196 : (Int64 × Int64 × Int32 × Int32 × Int32 × Int32 × Int32 × Int32 × Int32 × Int64)) (j229 : Int64) (p279 : (Int32 × Int64 × Int64 × Int32 × Int32 × Int32 × Int32 × Int32 × Int32 × Int32 × Int64)) (a245 : Int32) (lx297 : Int64) (lx298 : Int64) (lx299 : Int32) (lx300 : Int32) (lx301 : Int32) (lx302 : Int32) (lx303 : Int32) (lx304 : Int32) (lx305 : Int32) (lx306 : Int64) (lx307 : Int32) (lx308 : Int32) (lx309 : (Nat → Int32)) (p382 : (Int32 × Int64 × Int64 × Int32 × Int32 × Int32 × Int32 × Int32 × Int32 × Int32 × Int64)) (y350 : Int64) (y351 : Int64) (y352 : Int32) (y353 : Int32) (y354 : Int32) (y355 : Int32) (y356 : Int32) (y357 : Int32) (y358 : Int32) (y359 : Int64) (p458 : (Int64 × Int32 × Int32 × (Nat → Int32) × Int32 × Int32 × (Nat → Int32) × Int32 × Int32 × (Nat → Int32) × Int32 × Int32 × (Nat → Int32))) : Prop := (0 ≤ y354.toInt) ∧ ((y354.toInt ≤ 1) ∧ (True))
def S_Rea_floatText_c90 (A : Int32) (B : Int32) (C : Int32) (t0_0 : Int64) (t0_1 : Int64) (t0_2 : Int32) (t0_3 : Int32) (t0_4 : Int32) (t0_5 : Int32) (t0_6 : Int32) (t0_7 : Int32) (t0_8 : Int32) (t0_9 : Int64) (t1_0 : Int32) (t2_0 : (Nat → Int64)) (t3_0 : Int32) (t3_1 : Int32) (t4_0 : (Nat → Int32)) (t5_0 : Int32) (t5_1 : Int32) (t6_0 : (Nat → Int32)) (t7_0 : Int32) (t7_1 : Int32) (t8_0 : (Nat → Int32)) (t9_0 : Int32) (t9_1 : Int32) (t10_0 : (Nat → Int32)) (t11_0 : Int32) (t11_1 : Int32) (t12_0 : (Nat → Int32)) (p94 : (Int64 × Int64 × Int32 × Int32 × Int32 × Int32 × Int32 × Int32 × Int32 × Int64)) (p145 : (Int64 × Int64 × Int32 × Int32 × Int32 × Int32 × Int32 × Int32 × Int32 × Int64)) (p196 : (Int64 × Int64 × Int32 × Int32 × Int32 × Int32 × Int32 × Int32 × Int32 × Int64)) (j229 : Int64) (p279 : (Int32 × Int64 × Int64 × Int32 × Int32 × Int32 × Int32 × Int32 × Int32 × Int32 × Int64)) (a245 : Int32) (lx297 : Int64) (lx298 : Int64) (lx299 : Int32) (lx300 : Int32) (lx301 : Int32) (lx302 : Int32) (lx303 : Int32) (lx304 : Int32) (lx305 : Int32) (lx306 : Int64) (lx307 : Int32) (lx308 : Int32) (lx309 : (Nat → Int32)) (p382 : (Int32 × Int64 × Int64 × Int32 × Int32 × Int32 × Int32 × Int32 × Int32 × Int32 × Int64)) : Prop := if (p382.1 : Int32) = (0 : Int32) then (True) else (if a245 = (0 : Int32) then ((True ∧ S_Flo_nearestDecimal A B C (220 : Int32) ((((p382.2.2.2.2.2.2.1 : Int32) - (p382.2.2.2.2.2.2.2.2.1 : Int32) : Int32).toInt64 : Int64) - (p382.2.2.2.2.2.2.2.2.2.2 : Int64) : Int64) t5_0 t5_1 t6_0 t7_0 t7_1 t8_0 t9_0 t9_1 t10_0 t11_0 t11_1 t12_0 lx307 lx308 lx309) ∧ (S_Rea_floatText_c170 A B C t0_0 t0_1 t0_2 t0_3 t0_4 t0_5 t0_6 t0_7 t0_8 t0_9 t1_0 t2_0 t3_0 t3_1 t4_0 t5_0 t5_1 t6_0 t7_0 t7_1 t8_0 t9_0 t9_1 t10_0 t11_0 t11_1 t12_0 p94 p145 p196 j229 p279 a245 lx297 lx298 lx299 lx300 lx301 lx302 lx303 lx304 lx305 lx306 lx307 lx308 lx309 p382 (p382.2.1 : Int64) (p382.2.2.1 : Int64) (p382.2.2.2.1 : Int32) (p382.2.2.2.2.1 : Int32) (p382.2.2.2.2.2.1 : Int32) (p382.2.2.2.2.2.2.1 : Int32) (p382.2.2.2.2.2.2.2.1 : Int32) (p382.2.2.2.2.2.2.2.2.1 : Int32) (p382.2.2.2.2.2.2.2.2.2.1 : Int32) (p382.2.2.2.2.2.2.2.2.2.2 : Int64) ((F_Flo_nearestDecimal A B C (220 : Int32) ((((p382.2.2.2.2.2.2.1 : Int32) - (p382.2.2.2.2.2.2.2.2.1 : Int32) : Int32).toInt64 : Int64) - (p382.2.2.2.2.2.2.2.2.2.2 : Int64) : Int64) t5_0 t5_1 t6_0 t7_0 t7_1 t8_0 t9_0 t9_1 t10_0 t11_0 t11_1 t12_0 lx307 lx308 lx309) : (Int64 × Int32 × Int32 × (Nat → Int32) × Int32 × Int32 × (Nat → Int32) × Int32 × Int32 × (Nat → Int32) × Int32 × Int32 × (Nat → Int32))))) else ((0 ≤ (p382.2.2.2.2.2.1 : Int32).toInt) ∧ (((p382.2.2.2.2.2.1 : Int32).toInt ≤ 1) ∧ (True))))
def S_Rea_floatText_J89 (A : Int32) (B : Int32) (C : Int32) (t0_0 : Int64) (t0_1 : Int64) (t0_2 : Int32) (t0_3 : Int32) (t0_4 : Int32) (t0_5 : Int32) (t0_6 : Int32) (t0_7 : Int32) (t0_8 : Int32) (t0_9 : Int64) (t1_0 : Int32) (t2_0 : (Nat → Int64)) (t3_0 : Int32) (t3_1 : Int32) (t4_0 : (Nat → Int32)) (t5_0 : Int32) (t5_1 : Int32) (t6_0 : (Nat → Int32)) (t7_0 : Int32) (t7_1 : Int32) (t8_0 : (Nat → Int32)) (t9_0 : Int32) (t9_1 : Int32) (t10_0 : (Nat → Int32)) (t11_0 : Int32) (t11_1 : Int32) (t12_0 : (Nat → Int32)) (p94 : (Int64 × Int64 × Int32 × Int32 × Int32 × Int32 × Int32 × Int32 × Int32 × Int64)) (p145 : (Int64 × Int64 × Int32 × Int32 × Int32 × Int32 × Int32 × Int32 × Int32 × Int64)) (p196 : (Int64 × Int64 × Int32 × Int32 × Int32 × Int32 × Int32 × Int32 × Int32 × Int64)) (j229 : Int64) (p279 : (Int32 × Int64 × Int64 × Int32 × Int32 × Int32 × Int32 × Int32 × Int32 × Int32 × Int64)) (a245 : Int32) (lx297 : Int64) (lx298 : Int64) (lx299 : Int32) (lx300 : Int32) (lx301 : Int32) (lx302 : Int32) (lx303 : Int32) (lx304 : Int32) (lx305 : Int32) (lx306 : Int64) (lx307 : Int32) (lx308 : Int32) (lx309 : (Nat → Int32)) : Prop := (True ∧ S_Rea_takeEnding lx297 lx298 lx299 lx300 lx301 lx302 lx303 lx304 lx305 lx306 t1_0 t2_0) ∧ (S_Rea_floatText_c90 A B C t0_0 t0_1 t0_2 t0_3 t0_4 t0_5 t0_6 t0_7 t0_8 t0_9 t1_0 t2_0 t3_0 t3_1 t4_0 t5_0 t5_1 t6_0 t7_0 t7_1 t8_0 t9_0 t9_1 t10_0 t11_0 t11_1 t12_0 p94 p145 p196 j229 p279 a245 lx297 lx298 lx299 lx300 lx301 lx302 lx303 lx304 lx305 lx306 lx307 lx308 lx309 ((F_Rea_takeEnding lx297 lx298 lx299 lx300 lx301 lx302 lx303 lx304 lx305 lx306 t1_0 t2_0) : (Int32 × Int64 × Int64 × Int32 × Int32 × Int32 × Int32 × Int32 × Int32 × Int32 × Int64)))
def S_Rea_floatText_c83 (A : Int32) (B : Int32) (C : Int32) (t0_0 : Int64) (t0_1 : Int64) (t0_2 : Int32) (t0_3 : Int32) (t0_4 : Int32) (t0_5 : Int32) (t0_6 : Int32) (t0_7 : Int32) (t0_8 : Int32) (t0_9 : Int64) (t1_0 : Int32) (t2_0 : (Nat → Int64)) (t3_0 : Int32) (t3_1 : Int32) (t4_0 : (Nat → Int32)) (t5_0 : Int32) (t5_1 : Int32) (t6_0 : (Nat → Int32)) (t7_0 : Int32) (t7_1 : Int32) (t8_0 : (Nat → Int32)) (t9_0 : Int32) (t9_1 : Int32) (t10_0 : (Nat → Int32)) (t11_0 : Int32) (t11_1 : Int32) (t12_0 : (Nat → Int32)) (p94 : (Int64 × Int64 × Int32 × Int32 × Int32 × Int32 × Int32 × Int32 × Int32 × Int64)) (p145 : (Int64 × Int64 × Int32 × Int32 × Int32 × Int32 × Int32 × Int32 × Int32 × Int64)) (p196 : (Int64 × Int64 × Int32 × Int32 × Int32 × Int32 × Int32 × Int32 × Int32 × Int64)) (j229 : Int64) (p279 : (Int32 × Int64 × Int64 × Int32 × Int32 × Int32 × Int32 × Int32 × Int32 × Int32 × Int64)) (a245 : Int32) (p553 : (Int32 × Int64 × Int64 × Int32 × Int32 × Int32 × Int32 × Int32 × Int32 × Int32 × Int64 × Int32 × Int32 × (Nat → Int32))) : Prop := if (p553.1 : Int32) = (0 : Int32) then (True) else (S_Rea_floatText_J89 A B C t0_0 t0_1 t0_2 t0_3 t0_4 t0_5 t0_6 t0_7 t0_8 t0_9 t1_0 t2_0 t3_0 t3_1 t4_0 t5_0 t5_1 t6_0 t7_0 t7_1 t8_0 t9_0 t9_1 t10_0 t11_0 t11_1 t12_0 p94 p145 p196 j229 p279 a245 (p553.2.1 : Int64) (p553.2.2.1 : Int64) (p553.2.2.2.1 : Int32) (p553.2.2.2.2.1 : Int32) (p553.2.2.2.2.2.1 : Int32) (p553.2.2.2.2.2.2.1 : Int32) (p553.2.2.2.2.2.2.2.1 : Int32) (p553.2.2.2.2.2.2.2.2.1 : Int32) (p553.2.2.2.2.2.2.2.2.2.1 : Int32) (p553.2.2.2.2.2.2.2.2.2.2.1 : Int64) (p553.2.2.2.2.2.2.2.2.2.2.2.1 : Int32) (p553.2.2.2.2.2.2.2.2.2.2.2.2.1 : Int32) (p553.2.2.2.2.2.2.2.2.2.2.2.2.2 : (Nat → Int32)))
def S_Rea_floatText_c73 (A : Int32) (B : Int32) (C : Int32) (t0_0 : Int64) (t0_1 : Int64) (t0_2 : Int32) (t0_3 : Int32) (t0_4 : Int32) (t0_5 : Int32) (t0_6 : Int32) (t0_7 : Int32) (t0_8 : Int32) (t0_9 : Int64) (t1_0 : Int32) (t2_0 : (Nat → Int64)) (t3_0 : Int32) (t3_1 : Int32) (t4_0 : (Nat → Int32)) (t5_0 : Int32) (t5_1 : Int32) (t6_0 : (Nat → Int32)) (t7_0 : Int32) (t7_1 : Int32) (t8_0 : (Nat → Int32)) (t9_0 : Int32) (t9_1 : Int32) (t10_0 : (Nat → Int32)) (t11_0 : Int32) (t11_1 : Int32) (t12_0 : (Nat → Int32)) (p94 : (Int64 × Int64 × Int32 × Int32 × Int32 × Int32 × Int32 × Int32 × Int32 × Int64)) (p145 : (Int64 × Int64 × Int32 × Int32 × Int32 × Int32 × Int32 × Int32 × Int32 × Int64)) (p196 : (Int64 × Int64 × Int32 × Int32 × Int32 × Int32 × Int32 × Int32 × Int32 × Int64)) (j229 : Int64) (p279 : (Int32 × Int64 × Int64 × Int32 × Int32 × Int32 × Int32 × Int32 × Int32 × Int32 × Int64)) (a245 : Int32) (p617 : (Int32 × Int64 × Int64 × Int32 × Int32 × Int32 × Int32 × Int32 × Int32 × Int32 × Int64 × Int32 × Int32 × (Nat → Int32))) : Prop := if (p617.1 : Int32) = (0 : Int32) then (True) else (S_Rea_floatText_J89 A B C t0_0 t0_1 t0_2 t0_3 t0_4 t0_5 t0_6 t0_7 t0_8 t0_9 t1_0 t2_0 t3_0 t3_1 t4_0 t5_0 t5_1 t6_0 t7_0 t7_1 t8_0 t9_0 t9_1 t10_0 t11_0 t11_1 t12_0 p94 p145 p196 j229 p279 a245 (p617.2.1 : Int64) (p617.2.2.1 : Int64) (p617.2.2.2.1 : Int32) (p617.2.2.2.2.1 : Int32) (p617.2.2.2.2.2.1 : Int32) (p617.2.2.2.2.2.2.1 : Int32) (p617.2.2.2.2.2.2.2.1 : Int32) (p617.2.2.2.2.2.2.2.2.1 : Int32) (p617.2.2.2.2.2.2.2.2.2.1 : Int32) (p617.2.2.2.2.2.2.2.2.2.2.1 : Int64) (p617.2.2.2.2.2.2.2.2.2.2.2.1 : Int32) (p617.2.2.2.2.2.2.2.2.2.2.2.2.1 : Int32) (p617.2.2.2.2.2.2.2.2.2.2.2.2.2 : (Nat → Int32)))
def S_Rea_floatText_c62 (A : Int32) (B : Int32) (C : Int32) (t0_0 : Int64) (t0_1 : Int64) (t0_2 : Int32) (t0_3 : Int32) (t0_4 : Int32) (t0_5 : Int32) (t0_6 : Int32) (t0_7 : Int32) (t0_8 : Int32) (t0_9 : Int64) (t1_0 : Int32) (t2_0 : (Nat → Int64)) (t3_0 : Int32) (t3_1 : Int32) (t4_0 : (Nat → Int32)) (t5_0 : Int32) (t5_1 : Int32) (t6_0 : (Nat → Int32)) (t7_0 : Int32) (t7_1 : Int32) (t8_0 : (Nat → Int32)) (t9_0 : Int32) (t9_1 : Int32) (t10_0 : (Nat → Int32)) (t11_0 : Int32) (t11_1 : Int32) (t12_0 : (Nat → Int32)) (p94 : (Int64 × Int64 × Int32 × Int32 × Int32 × Int32 × Int32 × Int32 × Int32 × Int64)) (p145 : (Int64 × Int64 × Int32 × Int32 × Int32 × Int32 × Int32 × Int32 × Int32 × Int64)) (p196 : (Int64 × Int64 × Int32 × Int32 × Int32 × Int32 × Int32 × Int32 × Int32 × Int64)) (j229 : Int64) (p279 : (Int32 × Int64 × Int64 × Int32 × Int32 × Int32 × Int32 × Int32 × Int32 × Int32 × Int64)) : Prop := if (p279.1 : Int32) = (0 : Int32) then ((True ∧ S_Rea_takeDecimal (p279.2.1 : Int64) (p279.2.2.1 : Int64) (p279.2.2.2.1 : Int32) (p279.2.2.2.2.1 : Int32) (p279.2.2.2.2.2.1 : Int32) (p279.2.2.2.2.2.2.1 : Int32) (p279.2.2.2.2.2.2.2.1 : Int32) (p279.2.2.2.2.2.2.2.2.1 : Int32) (p279.2.2.2.2.2.2.2.2.2.1 : Int32) (p279.2.2.2.2.2.2.2.2.2.2 : Int64) t1_0 t2_0 t3_0 t3_1 t4_0) ∧ (S_Rea_floatText_c83 A B C t0_0 t0_1 t0_2 t0_3 t0_4 t0_5 t0_6 t0_7 t0_8 t0_9 t1_0 t2_0 t3_0 t3_1 t4_0 t5_0 t5_1 t6_0 t7_0 t7_1 t8_0 t9_0 t9_1 t10_0 t11_0 t11_1 t12_0 p94 p145 p196 j229 p279 (p279.1 : Int32) ((F_Rea_takeDecimal (p279.2.1 : Int64) (p279.2.2.1 : Int64) (p279.2.2.2.1 : Int32) (p279.2.2.2.2.1 : Int32) (p279.2.2.2.2.2.1 : Int32) (p279.2.2.2.2.2.2.1 : Int32) (p279.2.2.2.2.2.2.2.1 : Int32) (p279.2.2.2.2.2.2.2.2.1 : Int32) (p279.2.2.2.2.2.2.2.2.2.1 : Int32) (p279.2.2.2.2.2.2.2.2.2.2 : Int64) t1_0 t2_0 t3_0 t3_1 t4_0) : (Int32 × Int64 × Int64 × Int32 × Int32 × Int32 × Int32 × Int32 × Int32 × Int32 × Int64 × Int32 × Int32 × (Nat → Int32))))) else ((True ∧ S_Rea_takeHexadecimal (p279.2.1 : Int64) (p279.2.2.1 : Int64) (p279.2.2.2.1 : Int32) (p279.2.2.2.2.1 : Int32) (p279.2.2.2.2.2.1 : Int32) (p279.2.2.2.2.2.2.1 : Int32) (p279.2.2.2.2.2.2.2.1 : Int32) (p279.2.2.2.2.2.2.2.2.1 : Int32) (p279.2.2.2.2.2.2.2.2.2.1 : Int32) (p279.2.2.2.2.2.2.2.2.2.2 : Int64) t1_0 t2_0 t3_0 t3_1 t4_0) ∧ (S_Rea_floatText_c73 A B C t0_0 t0_1 t0_2 t0_3 t0_4 t0_5 t0_6 t0_7 t0_8 t0_9 t1_0 t2_0 t3_0 t3_1 t4_0 t5_0 t5_1 t6_0 t7_0 t7_1 t8_0 t9_0 t9_1 t10_0 t11_0 t11_1 t12_0 p94 p145 p196 j229 p279 (p279.1 : Int32) ((F_Rea_takeHexadecimal (p279.2.1 : Int64) (p279.2.2.1 : Int64) (p279.2.2.2.1 : Int32) (p279.2.2.2.2.1 : Int32) (p279.2.2.2.2.2.1 : Int32) (p279.2.2.2.2.2.2.1 : Int32) (p279.2.2.2.2.2.2.2.1 : Int32) (p279.2.2.2.2.2.2.2.2.1 : Int32) (p279.2.2.2.2.2.2.2.2.2.1 : Int32) (p279.2.2.2.2.2.2.2.2.2.2 : Int64) t1_0 t2_0 t3_0 t3_1 t4_0) : (Int32 × Int64 × Int64 × Int32 × Int32 × Int32 × Int32 × Int32 × Int32 × Int32 × Int64 × Int32 × Int32 × (Nat → Int32)))))
def S_Rea_floatText_c9 (A : Int32) (B : Int32) (C : Int32) (t0_0 : Int64) (t0_1 : Int64) (t0_2 : Int32) (t0_3 : Int32) (t0_4 : Int32) (t0_5 : Int32) (t0_6 : Int32) (t0_7 : Int32) (t0_8 : Int32) (t0_9 : Int64) (t1_0 : Int32) (t2_0 : (Nat → Int64)) (t3_0 : Int32) (t3_1 : Int32) (t4_0 : (Nat → Int32)) (t5_0 : Int32) (t5_1 : Int32) (t6_0 : (Nat → Int32)) (t7_0 : Int32) (t7_1 : Int32) (t8_0 : (Nat → Int32)) (t9_0 : Int32) (t9_1 : Int32) (t10_0 : (Nat → Int32)) (t11_0 : Int32) (t11_1 : Int32) (t12_0 : (Nat → Int32)) (p94 : (Int64 × Int64 × Int32 × Int32 × Int32 × Int32 × Int32 × Int32 × Int32 × Int64)) (p145 : (Int64 × Int64 × Int32 × Int32 × Int32 × Int32 × Int32 × Int32 × Int32 × Int64)) (p196 : (Int64 × Int64 × Int32 × Int32 × Int32 × Int32 × Int32 × Int32 × Int32 × Int64)) : Prop := (True ∧ S_Rea_saysRest_20 (p196.1 : Int64) (p196.2.1 : Int64) (p196.2.2.1 : Int32) (p196.2.2.2.1 : Int32) (p196.2.2.2.2.1 : Int32) (p196.2.2.2.2.2.1 : Int32) (p196.2.2.2.2.2.2.1 : Int32) (p196.2.2.2.2.2.2.2.1 : Int32) (p196.2.2.2.2.2.2.2.2.1 : Int32) (p196.2.2.2.2.2.2.2.2.2 : Int64) t1_0 t2_0) ∧ (if ((F_Rea_saysRest_20 (p196.1 : Int64) (p196.2.1 : Int64) (p196.2.2.1 : Int32) (p196.2.2.2.1 : Int32) (p196.2.2.2.2.1 : Int32) (p196.2.2.2.2.2.1 : Int32) (p196.2.2.2.2.2.2.1 : Int32) (p196.2.2.2.2.2.2.2.1 : Int32) (p196.2.2.2.2.2.2.2.2.1 : Int32) (p196.2.2.2.2.2.2.2.2.2 : Int64) t1_0 t2_0) : Int32) = (0 : Int32) then ((True ∧ S_Rea_saysRest_21 (p196.1 : Int64) (p196.2.1 : Int64) (p196.2.2.1 : Int32) (p196.2.2.2.1 : Int32) (p196.2.2.2.2.1 : Int32) (p196.2.2.2.2.2.1 : Int32) (p196.2.2.2.2.2.2.1 : Int32) (p196.2.2.2.2.2.2.2.1 : Int32) (p196.2.2.2.2.2.2.2.2.1 : Int32) (p196.2.2.2.2.2.2.2.2.2 : Int64) t1_0 t2_0) ∧ (if ((F_Rea_saysRest_21 (p196.1 : Int64) (p196.2.1 : Int64) (p196.2.2.1 : Int32) (p196.2.2.2.1 : Int32) (p196.2.2.2.2.1 : Int32) (p196.2.2.2.2.2.1 : Int32) (p196.2.2.2.2.2.2.1 : Int32) (p196.2.2.2.2.2.2.2.1 : Int32) (p196.2.2.2.2.2.2.2.2.1 : Int32) (p196.2.2.2.2.2.2.2.2.2 : Int64) t1_0 t2_0) : Int32) = (0 : Int32) then ((True ∧ S_Rea_takeHexadecimalMark (p196.1 : Int64) (p196.2.1 : Int64) (p196.2.2.1 : Int32) (p196.2.2.2.1 : Int32) (p196.2.2.2.2.1 : Int32) (p196.2.2.2.2.2.1 : Int32) (p196.2.2.2.2.2.2.1 : Int32) (p196.2.2.2.2.2.2.2.1 : Int32) (p196.2.2.2.2.2.2.2.2.1 : Int32) (p196.2.2.2.2.2.2.2.2.2 : Int64) t1_0 t2_0) ∧ (S_Rea_floatText_c62 A B C t0_0 t0_1 t0_2 t0_3 t0_4 t0_5 t0_6 t0_7 t0_8 t0_9 t1_0 t2_0 t3_0 t3_1 t4_0 t5_0 t5_1 t6_0 t7_0 t7_1 t8_0 t9_0 t9_1 t10_0 t11_0 t11_1 t12_0 p94 p145 p196 ((F_Flo_signBit A B C (p196.2.2.2.2.1 : Int32)) : Int64) ((F_Rea_takeHexadecimalMark (p196.1 : Int64) (p196.2.1 : Int64) (p196.2.2.1 : Int32) (p196.2.2.2.1 : Int32) (p196.2.2.2.2.1 : Int32) (p196.2.2.2.2.2.1 : Int32) (p196.2.2.2.2.2.2.1 : Int32) (p196.2.2.2.2.2.2.2.1 : Int32) (p196.2.2.2.2.2.2.2.2.1 : Int32) (p196.2.2.2.2.2.2.2.2.2 : Int64) t1_0 t2_0) : (Int32 × Int64 × Int64 × Int32 × Int32 × Int32 × Int32 × Int32 × Int32 × Int32 × Int64)))) else ((0 ≤ (p196.2.2.2.2.2.2.2.2.1 : Int32).toInt) ∧ (((p196.2.2.2.2.2.2.2.2.1 : Int32).toInt ≤ 1) ∧ (True))))) else ((0 ≤ (p196.2.2.2.2.2.2.2.2.1 : Int32).toInt) ∧ (((p196.2.2.2.2.2.2.2.2.1 : Int32).toInt ≤ 1) ∧ (True))))
def S_Rea_floatText_c5 (A : Int32) (B : Int32) (C : Int32) (t0_0 : Int64) (t0_1 : Int64) (t0_2 : Int32) (t0_3 : Int32) (t0_4 : Int32) (t0_5 : Int32) (t0_6 : Int32) (t0_7 : Int32) (t0_8 : Int32) (t0_9 : Int64) (t1_0 : Int32) (t2_0 : (Nat → Int64)) (t3_0 : Int32) (t3_1 : Int32) (t4_0 : (Nat → Int32)) (t5_0 : Int32) (t5_1 : Int32) (t6_0 : (Nat → Int32)) (t7_0 : Int32) (t7_1 : Int32) (t8_0 : (Nat → Int32)) (t9_0 : Int32) (t9_1 : Int32) (t10_0 : (Nat → Int32)) (t11_0 : Int32) (t11_1 : Int32) (t12_0 : (Nat → Int32)) (p94 : (Int64 × Int64 × Int32 × Int32 × Int32 × Int32 × Int32 × Int32 × Int32 × Int64)) (p145 : (Int64 × Int64 × Int32 × Int32 × Int32 × Int32 × Int32 × Int32 × Int32 × Int64)) : Prop := (True ∧ S_Rea_takeSign (p145.1 : Int64) (p145.2.1 : Int64) (p145.2.2.1 : Int32) (p145.2.2.2.1 : Int32) (p145.2.2.2.2.1 : Int32) (p145.2.2.2.2.2.1 : Int32) (p145.2.2.2.2.2.2.1 : Int32) (p145.2.2.2.2.2.2.2.1 : Int32) (p145.2.2.2.2.2.2.2.2.1 : Int32) (p145.2.2.2.2.2.2.2.2.2 : Int64) t1_0 t2_0) ∧ (S_Rea_floatText_c9 A B C t0_0 t0_1 t0_2 t0_3 t0_4 t0_5 t0_6 t0_7 t0_8 t0_9 t1_0 t2_0 t3_0 t3_1 t4_0 t5_0 t5_1 t6_0 t7_0 t7_1 t8_0 t9_0 t9_1 t10_0 t11_0 t11_1 t12_0 p94 p145 ((F_Rea_takeSign (p145.1 : Int64) (p145.2.1 : Int64) (p145.2.2.1 : Int32) (p145.2.2.2.1 : Int32) (p145.2.2.2.2.1 : Int32) (p145.2.2.2.2.2.1 : Int32) (p145.2.2.2.2.2.2.1 : Int32) (p145.2.2.2.2.2.2.2.1 : Int32) (p145.2.2.2.2.2.2.2.2.1 : Int32) (p145.2.2.2.2.2.2.2.2.2 : Int64) t1_0 t2_0) : (Int64 × Int64 × Int32 × Int32 × Int32 × Int32 × Int32 × Int32 × Int32 × Int64)))
def S_Rea_floatText_c1 (A : Int32) (B : Int32) (C : Int32) (t0_0 : Int64) (t0_1 : Int64) (t0_2 : Int32) (t0_3 : Int32) (t0_4 : Int32) (t0_5 : Int32) (t0_6 : Int32) (t0_7 : Int32) (t0_8 : Int32) (t0_9 : Int64) (t1_0 : Int32) (t2_0 : (Nat → Int64)) (t3_0 : Int32) (t3_1 : Int32) (t4_0 : (Nat → Int32)) (t5_0 : Int32) (t5_1 : Int32) (t6_0 : (Nat → Int32)) (t7_0 : Int32) (t7_1 : Int32) (t8_0 : (Nat → Int32)) (t9_0 : Int32) (t9_1 : Int32) (t10_0 : (Nat → Int32)) (t11_0 : Int32) (t11_1 : Int32) (t12_0 : (Nat → Int32)) (p94 : (Int64 × Int64 × Int32 × Int32 × Int32 × Int32 × Int32 × Int32 × Int32 × Int64)) : Prop := (True ∧ S_Rea_trimBlanks (p94.1 : Int64) (p94.2.1 : Int64) (p94.2.2.1 : Int32) (p94.2.2.2.1 : Int32) (p94.2.2.2.2.1 : Int32) (p94.2.2.2.2.2.1 : Int32) (p94.2.2.2.2.2.2.1 : Int32) (p94.2.2.2.2.2.2.2.1 : Int32) (p94.2.2.2.2.2.2.2.2.1 : Int32) (p94.2.2.2.2.2.2.2.2.2 : Int64) t1_0 t2_0) ∧ (S_Rea_floatText_c5 A B C t0_0 t0_1 t0_2 t0_3 t0_4 t0_5 t0_6 t0_7 t0_8 t0_9 t1_0 t2_0 t3_0 t3_1 t4_0 t5_0 t5_1 t6_0 t7_0 t7_1 t8_0 t9_0 t9_1 t10_0 t11_0 t11_1 t12_0 p94 ((F_Rea_trimBlanks (p94.1 : Int64) (p94.2.1 : Int64) (p94.2.2.1 : Int32) (p94.2.2.2.1 : Int32) (p94.2.2.2.2.1 : Int32) (p94.2.2.2.2.2.1 : Int32) (p94.2.2.2.2.2.2.1 : Int32) (p94.2.2.2.2.2.2.2.1 : Int32) (p94.2.2.2.2.2.2.2.2.1 : Int32) (p94.2.2.2.2.2.2.2.2.2 : Int64) t1_0 t2_0) : (Int64 × Int64 × Int32 × Int32 × Int32 × Int32 × Int32 × Int32 × Int32 × Int64)))
def S_Rea_floatText (A : Int32) (B : Int32) (C : Int32) (t0_0 : Int64) (t0_1 : Int64) (t0_2 : Int32) (t0_3 : Int32) (t0_4 : Int32) (t0_5 : Int32) (t0_6 : Int32) (t0_7 : Int32) (t0_8 : Int32) (t0_9 : Int64) (t1_0 : Int32) (t2_0 : (Nat → Int64)) (t3_0 : Int32) (t3_1 : Int32) (t4_0 : (Nat → Int32)) (t5_0 : Int32) (t5_1 : Int32) (t6_0 : (Nat → Int32)) (t7_0 : Int32) (t7_1 : Int32) (t8_0 : (Nat → Int32)) (t9_0 : Int32) (t9_1 : Int32) (t10_0 : (Nat → Int32)) (t11_0 : Int32) (t11_1 : Int32) (t12_0 : (Nat → Int32)) : Prop := S_Rea_floatText_c1 A B C t0_0 t0_1 t0_2 t0_3 t0_4 t0_5 t0_6 t0_7 t0_8 t0_9 t1_0 t2_0 t3_0 t3_1 t4_0 t5_0 t5_1 t6_0 t7_0 t7_1 t8_0 t9_0 t9_1 t10_0 t11_0 t11_1 t12_0 ((F_Rea_begin t0_0 t0_1 t0_2 t0_3 t0_4 t0_5 t0_6 t0_7 t0_8 t0_9 t1_0 t2_0) : (Int64 × Int64 × Int32 × Int32 × Int32 × Int32 × Int32 × Int32 × Int32 × Int64))
set_option maxRecDepth 100000 in
set_option maxHeartbeats 4000000 in
theorem X_Rea_floatText (l : Launch) (D : va_G) (g : Nat → ClassId) (q : Nat → Nat) (ws : va_W) (k2 : Nat) (A B C : Int32) (hB2 : q_isFlo (nsh g q) q k2 A B C) (hI : q_I (nsh g q) q ws) (t0_0 : Int64) (t0_1 : Int64) (t0_2 : Int32) (t0_3 : Int32) (t0_4 : Int32) (t0_5 : Int32) (t0_6 : Int32) (t0_7 : Int32) (t0_8 : Int32) (t0_9 : Int64) (hT0 : ws[38]? = (some (q 38, .inr (8, [.long t0_0, .long t0_1, .ref (q 1), .ref (q 9), .int t0_2, .int t0_3, .int t0_4, .int t0_5, .int t0_6, .int t0_7, .int t0_8, .long t0_9])) : Option (Nat × va_E))) (t1_0 : Int32) (hT1 : ws[1]? = (some (q 1, .inr (1, [.ref (q 2), .int 4100, .int t1_0])) : Option (Nat × va_E))) (t2_0 : (Nat → Int64)) (hT2 : ws[2]? = (some (q 2, .inl (g 1, (513 : Int32).toNatClampNeg, .inr (.inl t2_0))) : Option (Nat × va_E))) (t3_0 : Int32) (t3_1 : Int32) (hT3 : ws[10]? = (some (q 10, .inr (2, [.ref (q 11), .int t3_0, .int t3_1])) : Option (Nat × va_E))) (t4_0 : (Nat → Int32)) (hT4 : ws[11]? = (some (q 11, .inl (g 0, (220 : Int32).toNatClampNeg, .inl t4_0)) : Option (Nat × va_E))) (t5_0 : Int32) (t5_1 : Int32) (hT5 : ws[22]? = (some (q 22, .inr (2, [.ref (q 23), .int t5_0, .int t5_1])) : Option (Nat × va_E))) (t6_0 : (Nat → Int32)) (hT6 : ws[23]? = (some (q 23, .inl (g 0, (220 : Int32).toNatClampNeg, .inl t6_0)) : Option (Nat × va_E))) (t7_0 : Int32) (t7_1 : Int32) (hT7 : ws[24]? = (some (q 24, .inr (2, [.ref (q 25), .int t7_0, .int t7_1])) : Option (Nat × va_E))) (t8_0 : (Nat → Int32)) (hT8 : ws[25]? = (some (q 25, .inl (g 0, (220 : Int32).toNatClampNeg, .inl t8_0)) : Option (Nat × va_E))) (t9_0 : Int32) (t9_1 : Int32) (hT9 : ws[12]? = (some (q 12, .inr (2, [.ref (q 13), .int t9_0, .int t9_1])) : Option (Nat × va_E))) (t10_0 : (Nat → Int32)) (hT10 : ws[13]? = (some (q 13, .inl (g 0, (220 : Int32).toNatClampNeg, .inl t10_0)) : Option (Nat × va_E))) (t11_0 : Int32) (t11_1 : Int32) (hT11 : ws[20]? = (some (q 20, .inr (2, [.ref (q 21), .int t11_0, .int t11_1])) : Option (Nat × va_E))) (t12_0 : (Nat → Int32)) (hT12 : ws[21]? = (some (q 21, .inl (g 0, (220 : Int32).toNatClampNeg, .inl t12_0)) : Option (Nat × va_E))) (hS : True ∧ S_Rea_floatText A B C t0_0 t0_1 t0_2 t0_3 t0_4 t0_5 t0_6 t0_7 t0_8 t0_9 t1_0 t2_0 t3_0 t3_1 t4_0 t5_0 t5_1 t6_0 t7_0 t7_1 t8_0 t9_0 t9_1 t10_0 t11_0 t11_1 t12_0) : q_mI l y_Rea_floatText prog_10_method_4_code 5 (.int) 6 0 0 D g [.ref (q 38), .ref (q k2)] ws (fun r u => q_I (nsh g q) q u ∧ q_un ws u [10, 11, 12, 13, 20, 21, 22, 23, 24, 25, 38] ∧ ∃ (u0_0 : Int64) (u0_1 : Int64) (u0_2 : Int32) (u0_3 : Int32) (u0_4 : Int32) (u0_5 : Int32) (u0_6 : Int32) (u0_7 : Int32) (u0_8 : Int32) (u0_9 : Int64) (u3_0 : Int32) (u3_1 : Int32) (u4_0 : (Nat → Int32)) (u5_0 : Int32) (u5_1 : Int32) (u6_0 : (Nat → Int32)) (u7_0 : Int32) (u7_1 : Int32) (u8_0 : (Nat → Int32)) (u9_0 : Int32) (u9_1 : Int32) (u10_0 : (Nat → Int32)) (u11_0 : Int32) (u11_1 : Int32) (u12_0 : (Nat → Int32)), u[38]? = (some (q 38, .inr (8, [.long u0_0, .long u0_1, .ref (q 1), .ref (q 9), .int u0_2, .int u0_3, .int u0_4, .int u0_5, .int u0_6, .int u0_7, .int u0_8, .long u0_9])) : Option (Nat × va_E)) ∧ u[10]? = (some (q 10, .inr (2, [.ref (q 11), .int u3_0, .int u3_1])) : Option (Nat × va_E)) ∧ u[11]? = (some (q 11, .inl (g 0, (220 : Int32).toNatClampNeg, .inl u4_0)) : Option (Nat × va_E)) ∧ u[22]? = (some (q 22, .inr (2, [.ref (q 23), .int u5_0, .int u5_1])) : Option (Nat × va_E)) ∧ u[23]? = (some (q 23, .inl (g 0, (220 : Int32).toNatClampNeg, .inl u6_0)) : Option (Nat × va_E)) ∧ u[24]? = (some (q 24, .inr (2, [.ref (q 25), .int u7_0, .int u7_1])) : Option (Nat × va_E)) ∧ u[25]? = (some (q 25, .inl (g 0, (220 : Int32).toNatClampNeg, .inl u8_0)) : Option (Nat × va_E)) ∧ u[12]? = (some (q 12, .inr (2, [.ref (q 13), .int u9_0, .int u9_1])) : Option (Nat × va_E)) ∧ u[13]? = (some (q 13, .inl (g 0, (220 : Int32).toNatClampNeg, .inl u10_0)) : Option (Nat × va_E)) ∧ u[20]? = (some (q 20, .inr (2, [.ref (q 21), .int u11_0, .int u11_1])) : Option (Nat × va_E)) ∧ u[21]? = (some (q 21, .inl (g 0, (220 : Int32).toNatClampNeg, .inl u12_0)) : Option (Nat × va_E)) ∧ (0 ≤ r.toInt) ∧ (r.toInt ≤ 1) ∧ (0 ≤ u0_8.toInt) ∧ (u0_8.toInt ≤ 1) ∧ (0 ≤ u3_0.toInt) ∧ (u3_0.toInt ≤ 4100) ∧ (0 ≤ u3_1.toInt) ∧ (u3_1.toInt ≤ 1) ∧ (0 ≤ u5_0.toInt) ∧ (u5_0.toInt ≤ 220) ∧ (0 ≤ u5_1.toInt) ∧ (u5_1.toInt ≤ 1) ∧ (0 ≤ u7_0.toInt) ∧ (u7_0.toInt ≤ 220) ∧ (0 ≤ u7_1.toInt) ∧ (u7_1.toInt ≤ 1) ∧ (0 ≤ u9_0.toInt) ∧ (u9_0.toInt ≤ 220) ∧ (0 ≤ u9_1.toInt) ∧ (u9_1.toInt ≤ 1) ∧ (0 ≤ u11_0.toInt) ∧ (u11_0.toInt ≤ 220) ∧ (0 ≤ u11_1.toInt) ∧ (u11_1.toInt ≤ 1) ∧ (t0_0.toInt ≤ u0_0.toInt) ∧ (u0_0.toInt ≤ t0_0.toInt) ∧ (u0_3.toInt ≤ t1_0.toInt) ∧ (u3_1.toInt ≤ t3_1.toInt) ∧ (u9_1.toInt ≤ t9_1.toInt) ∧ (u3_1.toInt ≤ r.toInt) ∧ (r, u0_0, u0_1, u0_2, u0_3, u0_4, u0_5, u0_6, u0_7, u0_8, u0_9, u3_0, u3_1, u4_0, u5_0, u5_1, u6_0, u7_0, u7_1, u8_0, u9_0, u9_1, u10_0, u11_0, u11_1, u12_0) = (F_Rea_floatText A B C t0_0 t0_1 t0_2 t0_3 t0_4 t0_5 t0_6 t0_7 t0_8 t0_9 t1_0 t2_0 t3_0 t3_1 t4_0 t5_0 t5_1 t6_0 t7_0 t7_1 t8_0 t9_0 t9_1 t10_0 t11_0 t11_1 t12_0)) := by
  intro sz
  refine q_into (by decide) (Nat.le_of_ble_eq_true rfl) ?_
  intro p e s m below meth c ls hsz C0 V hl
  have hx := C0.1
  have hb := C0.2.1
  have btt0_8 := (n_w38 hI hT0).2
  clear btt0_8
  have btt1_0 := n_shW hI (n_h1 g q) hT1
  clear btt1_0
  obtain ⟨btt3_0, btt3_1⟩ := q_bigW hI (n_b10 g q) hT3
  replace btt3_0 : q_F (0 ≤ t3_0.toInt ∧ t3_0.toInt ≤ 220) := btt3_0
  replace btt3_1 : q_F (0 ≤ t3_1.toInt ∧ t3_1.toInt ≤ 1) := btt3_1
  obtain ⟨btt5_0, btt5_1⟩ := q_bigW hI (n_b22 g q) hT5
  replace btt5_0 : q_F (0 ≤ t5_0.toInt ∧ t5_0.toInt ≤ 220) := btt5_0
  replace btt5_1 : q_F (0 ≤ t5_1.toInt ∧ t5_1.toInt ≤ 1) := btt5_1
  obtain ⟨btt7_0, btt7_1⟩ := q_bigW hI (n_b24 g q) hT7
  replace btt7_0 : q_F (0 ≤ t7_0.toInt ∧ t7_0.toInt ≤ 220) := btt7_0
  replace btt7_1 : q_F (0 ≤ t7_1.toInt ∧ t7_1.toInt ≤ 1) := btt7_1
  obtain ⟨btt9_0, btt9_1⟩ := q_bigW hI (n_b12 g q) hT9
  replace btt9_0 : q_F (0 ≤ t9_0.toInt ∧ t9_0.toInt ≤ 220) := btt9_0
  replace btt9_1 : q_F (0 ≤ t9_1.toInt ∧ t9_1.toInt ≤ 1) := btt9_1
  obtain ⟨btt11_0, btt11_1⟩ := q_bigW hI (n_b20 g q) hT11
  replace btt11_0 : q_F (0 ≤ t11_0.toInt ∧ t11_0.toInt ≤ 220) := btt11_0
  replace btt11_1 : q_F (0 ≤ t11_1.toInt ∧ t11_1.toInt ≤ 1) := btt11_1
  have hF : q_un ws ws [10, 11, 12, 13, 20, 21, 22, 23, 24, 25, 38] := q_u0
  have hl : lv_has ls 5 [(0, .ref (q 38)), (1, .ref (q k2))] := hl
  refine lv_aload_n hx hb d_10_4_0 rfl (lv_at hl 0 rfl) ?_
  refine q_gov V (q_runV (As := []) (rest := []) (d := 1) (mc := 0) (ms := 0) (ci := 8) C0 V rfl LV_Rea_19 (X_Rea_begin l D g q ws   hI t0_0 t0_1 t0_2 t0_3 t0_4 t0_5 t0_6 t0_7 t0_8 t0_9 hT0 t1_0 hT1 t2_0 hT2  _) rfl rfl hT0 rfl hl.1 rfl (Nat.le_of_ble_eq_true rfl) ⟨by decide, by decide⟩ ⟨Nat.le_of_ble_eq_true rfl, Nat.le_of_ble_eq_true rfl⟩ d_10_4_1) (fun u59 H locs hp60 V => ?_)
  obtain ⟨hI, hZ9⟩ := hp60
  obtain ⟨hu93, hZ9⟩ := hZ9
  obtain ⟨y62, hZ9⟩ := hZ9
  obtain ⟨y63, hZ9⟩ := hZ9
  obtain ⟨y64, hZ9⟩ := hZ9
  obtain ⟨y65, hZ9⟩ := hZ9
  obtain ⟨y66, hZ9⟩ := hZ9
  obtain ⟨y67, hZ9⟩ := hZ9
  obtain ⟨y68, hZ9⟩ := hZ9
  obtain ⟨y69, hZ9⟩ := hZ9
  obtain ⟨y70, hZ9⟩ := hZ9
  obtain ⟨y71, hZ9⟩ := hZ9
  obtain ⟨hO61, hZ9⟩ := hZ9
  replace hZ9 := hZ9.2.2
  obtain ⟨b74, hZ9⟩ := hZ9
  obtain ⟨b75, hZ9⟩ := hZ9
  replace hZ9 := hZ9.2.2.2
  obtain ⟨b79, hZ9⟩ := hZ9
  replace hZ9 := hZ9.2.2.2.2.2.2.2.2.2.2.2
  obtain ⟨-, hE92⟩ := hZ9
  replace hO61 : u59[38]? = (some (q 38, .inr (8, [.long y62, .long y63, .ref (q 1), .ref (q 9), .int y64, .int y65, .int y66, .int y67, .int y68, .int y69, .int y70, .long y71])) : Option (Nat × va_E)) := hO61
  obtain ⟨p94, e95⟩ : ∃ z, z = (F_Rea_begin t0_0 t0_1 t0_2 t0_3 t0_4 t0_5 t0_6 t0_7 t0_8 t0_9 t1_0 t2_0) := ⟨_, rfl⟩
  have e96 : y62 = p94.1 := congrArg (fun z => z.1) (hE92.trans e95.symm)
  have e97 : y63 = p94.2.1 := congrArg (fun z => z.2.1) (hE92.trans e95.symm)
  have e98 : y64 = p94.2.2.1 := congrArg (fun z => z.2.2.1) (hE92.trans e95.symm)
  have e99 : y65 = p94.2.2.2.1 := congrArg (fun z => z.2.2.2.1) (hE92.trans e95.symm)
  have e100 : y66 = p94.2.2.2.2.1 := congrArg (fun z => z.2.2.2.2.1) (hE92.trans e95.symm)
  have e101 : y67 = p94.2.2.2.2.2.1 := congrArg (fun z => z.2.2.2.2.2.1) (hE92.trans e95.symm)
  have e102 : y68 = p94.2.2.2.2.2.2.1 := congrArg (fun z => z.2.2.2.2.2.2.1) (hE92.trans e95.symm)
  have e103 : y69 = p94.2.2.2.2.2.2.2.1 := congrArg (fun z => z.2.2.2.2.2.2.2.1) (hE92.trans e95.symm)
  have e104 : y70 = p94.2.2.2.2.2.2.2.2.1 := congrArg (fun z => z.2.2.2.2.2.2.2.2.1) (hE92.trans e95.symm)
  have e105 : y71 = p94.2.2.2.2.2.2.2.2.2 := congrArg (fun z => z.2.2.2.2.2.2.2.2.2) (hE92.trans e95.symm)
  replace b74 : q_F (t0_0.toInt ≤ y62.toInt) := b74
  replace b75 : q_F (y62.toInt ≤ t0_0.toInt) := b75
  replace b79 : q_F (y65.toInt ≤ t1_0.toInt) := b79
  replace hT1 := (hu93 _ (by decide)).trans hT1
  replace hT2 := (hu93 _ (by decide)).trans hT2
  replace hT3 := (hu93 _ (by decide)).trans hT3
  replace hT4 := (hu93 _ (by decide)).trans hT4
  replace hT5 := (hu93 _ (by decide)).trans hT5
  replace hT6 := (hu93 _ (by decide)).trans hT6
  replace hT7 := (hu93 _ (by decide)).trans hT7
  replace hT8 := (hu93 _ (by decide)).trans hT8
  replace hT9 := (hu93 _ (by decide)).trans hT9
  replace hT10 := (hu93 _ (by decide)).trans hT10
  replace hT11 := (hu93 _ (by decide)).trans hT11
  replace hT12 := (hu93 _ (by decide)).trans hT12
  replace hF := q_uc hF hu93 (by simp)
  have hR106 := (show F_Rea_floatText_c1 A B C t0_0 t0_1 t0_2 t0_3 t0_4 t0_5 t0_6 t0_7 t0_8 t0_9 t1_0 t2_0 t3_0 t3_1 t4_0 t5_0 t5_1 t6_0 t7_0 t7_1 t8_0 t9_0 t9_1 t10_0 t11_0 t11_1 t12_0 p94 = (F_Rea_floatText A B C t0_0 t0_1 t0_2 t0_3 t0_4 t0_5 t0_6 t0_7 t0_8 t0_9 t1_0 t2_0 t3_0 t3_1 t4_0 t5_0 t5_1 t6_0 t7_0 t7_1 t8_0 t9_0 t9_1 t10_0 t11_0 t11_1 t12_0) from (by rw [e95, F_Rea_floatText.eq_1]))
  have hS107 := (show True ∧ S_Rea_floatText_c1 A B C t0_0 t0_1 t0_2 t0_3 t0_4 t0_5 t0_6 t0_7 t0_8 t0_9 t1_0 t2_0 t3_0 t3_1 t4_0 t5_0 t5_1 t6_0 t7_0 t7_1 t8_0 t9_0 t9_1 t10_0 t11_0 t11_1 t12_0 p94 from (by rw [e95]; have h := hS; rw [S_Rea_floatText.eq_1] at h; with_reducible exact h))
  refine lv_aload_n hx hb d_10_4_4 rfl (lv_at hl 0 rfl) ?_
  have ob111 : True ∧ S_Rea_trimBlanks y62 y63 y64 y65 y66 y67 y68 y69 y70 y71 t1_0 t2_0 := (by rw [e105, e104, e103, e102, e101, e100, e99, e98, e97, e96]; have h := hS107; rw [S_Rea_floatText_c1.eq_1] at h; with_reducible exact h.2.1)
  refine q_gov V (q_runV (As := []) (rest := []) (d := 2) (mc := 0) (ms := 0) (ci := 8) C0 V rfl LV_Rea_86 (X_Rea_trimBlanks l D g q u59   hI y62 y63 y64 y65 y66 y67 y68 y69 y70 y71 hO61 t1_0 hT1 t2_0 hT2 ob111 _) rfl rfl hO61 rfl hl.1 rfl (Nat.le_of_ble_eq_true rfl) ⟨by decide, by decide⟩ ⟨Nat.le_of_ble_eq_true rfl, Nat.le_of_ble_eq_true rfl⟩ d_10_4_5) (fun u112 H locs hp113 V => ?_)
  obtain ⟨hI, hZ9⟩ := hp113
  obtain ⟨hu144, hZ9⟩ := hZ9
  obtain ⟨y115, hZ9⟩ := hZ9
  obtain ⟨y116, hZ9⟩ := hZ9
  obtain ⟨y117, hZ9⟩ := hZ9
  obtain ⟨y118, hZ9⟩ := hZ9
  obtain ⟨y119, hZ9⟩ := hZ9
  obtain ⟨y120, hZ9⟩ := hZ9
  obtain ⟨y121, hZ9⟩ := hZ9
  obtain ⟨y122, hZ9⟩ := hZ9
  obtain ⟨y123, hZ9⟩ := hZ9
  obtain ⟨y124, hZ9⟩ := hZ9
  obtain ⟨hO114, hZ9⟩ := hZ9
  obtain ⟨b125, hZ9⟩ := hZ9
  obtain ⟨b126, hZ9⟩ := hZ9
  replace hZ9 := hZ9.2.2.2
  obtain ⟨b130, hZ9⟩ := hZ9
  replace hZ9 := hZ9.2.2.2.2.2.2.2.2.2.2.2
  obtain ⟨-, hE143⟩ := hZ9
  replace hO114 : u112[38]? = (some (q 38, .inr (8, [.long y115, .long y116, .ref (q 1), .ref (q 9), .int y117, .int y118, .int y119, .int y120, .int y121, .int y122, .int y123, .long y124])) : Option (Nat × va_E)) := hO114
  obtain ⟨p145, e146⟩ : ∃ z, z = (F_Rea_trimBlanks y62 y63 y64 y65 y66 y67 y68 y69 y70 y71 t1_0 t2_0) := ⟨_, rfl⟩
  have e147 : y115 = p145.1 := congrArg (fun z => z.1) (hE143.trans e146.symm)
  have e148 : y116 = p145.2.1 := congrArg (fun z => z.2.1) (hE143.trans e146.symm)
  have e149 : y117 = p145.2.2.1 := congrArg (fun z => z.2.2.1) (hE143.trans e146.symm)
  have e150 : y118 = p145.2.2.2.1 := congrArg (fun z => z.2.2.2.1) (hE143.trans e146.symm)
  have e151 : y119 = p145.2.2.2.2.1 := congrArg (fun z => z.2.2.2.2.1) (hE143.trans e146.symm)
  have e152 : y120 = p145.2.2.2.2.2.1 := congrArg (fun z => z.2.2.2.2.2.1) (hE143.trans e146.symm)
  have e153 : y121 = p145.2.2.2.2.2.2.1 := congrArg (fun z => z.2.2.2.2.2.2.1) (hE143.trans e146.symm)
  have e154 : y122 = p145.2.2.2.2.2.2.2.1 := congrArg (fun z => z.2.2.2.2.2.2.2.1) (hE143.trans e146.symm)
  have e155 : y123 = p145.2.2.2.2.2.2.2.2.1 := congrArg (fun z => z.2.2.2.2.2.2.2.2.1) (hE143.trans e146.symm)
  have e156 : y124 = p145.2.2.2.2.2.2.2.2.2 := congrArg (fun z => z.2.2.2.2.2.2.2.2.2) (hE143.trans e146.symm)
  replace b125 : q_F (y62.toInt ≤ y115.toInt) := b125
  replace b126 : q_F (y115.toInt ≤ y62.toInt) := b126
  replace b130 : q_F (y118.toInt ≤ y65.toInt) := b130
  replace hT1 := (hu144 _ (by decide)).trans hT1
  replace hT2 := (hu144 _ (by decide)).trans hT2
  replace hT3 := (hu144 _ (by decide)).trans hT3
  replace hT4 := (hu144 _ (by decide)).trans hT4
  replace hT5 := (hu144 _ (by decide)).trans hT5
  replace hT6 := (hu144 _ (by decide)).trans hT6
  replace hT7 := (hu144 _ (by decide)).trans hT7
  replace hT8 := (hu144 _ (by decide)).trans hT8
  replace hT9 := (hu144 _ (by decide)).trans hT9
  replace hT10 := (hu144 _ (by decide)).trans hT10
  replace hT11 := (hu144 _ (by decide)).trans hT11
  replace hT12 := (hu144 _ (by decide)).trans hT12
  replace hF := q_uc hF hu144 (by simp)
  have hR157 := (show F_Rea_floatText_c5 A B C t0_0 t0_1 t0_2 t0_3 t0_4 t0_5 t0_6 t0_7 t0_8 t0_9 t1_0 t2_0 t3_0 t3_1 t4_0 t5_0 t5_1 t6_0 t7_0 t7_1 t8_0 t9_0 t9_1 t10_0 t11_0 t11_1 t12_0 p94 p145 = (F_Rea_floatText A B C t0_0 t0_1 t0_2 t0_3 t0_4 t0_5 t0_6 t0_7 t0_8 t0_9 t1_0 t2_0 t3_0 t3_1 t4_0 t5_0 t5_1 t6_0 t7_0 t7_1 t8_0 t9_0 t9_1 t10_0 t11_0 t11_1 t12_0) from Eq.trans (by rw [e146, e105, e104, e103, e102, e101, e100, e99, e98, e97, e96, F_Rea_floatText_c1.eq_1]) hR106)
  have hS158 := (show True ∧ S_Rea_floatText_c5 A B C t0_0 t0_1 t0_2 t0_3 t0_4 t0_5 t0_6 t0_7 t0_8 t0_9 t1_0 t2_0 t3_0 t3_1 t4_0 t5_0 t5_1 t6_0 t7_0 t7_1 t8_0 t9_0 t9_1 t10_0 t11_0 t11_1 t12_0 p94 p145 from (by rw [e146, e105, e104, e103, e102, e101, e100, e99, e98, e97, e96]; have h := hS107; rw [S_Rea_floatText_c1.eq_1] at h; replace h := q_s2 h; with_reducible exact h))
  refine lv_aload_n hx hb d_10_4_8 rfl (lv_at hl 0 rfl) ?_
  have ob162 : True ∧ S_Rea_takeSign y115 y116 y117 y118 y119 y120 y121 y122 y123 y124 t1_0 t2_0 := (by rw [e156, e155, e154, e153, e152, e151, e150, e149, e148, e147]; have h := hS158; rw [S_Rea_floatText_c5.eq_1] at h; with_reducible exact h.2.1)
  refine q_gov V (q_runV (As := []) (rest := []) (d := 3) (mc := 0) (ms := 0) (ci := 8) C0 V rfl LV_Rea_22 (X_Rea_takeSign l D g q u112   hI y115 y116 y117 y118 y119 y120 y121 y122 y123 y124 hO114 t1_0 hT1 t2_0 hT2 ob162 _) rfl rfl hO114 rfl hl.1 rfl (Nat.le_of_ble_eq_true rfl) ⟨by decide, by decide⟩ ⟨Nat.le_of_ble_eq_true rfl, Nat.le_of_ble_eq_true rfl⟩ d_10_4_9) (fun u163 H locs hp164 V => ?_)
  obtain ⟨hI, hZ9⟩ := hp164
  obtain ⟨hu195, hZ9⟩ := hZ9
  obtain ⟨y166, hZ9⟩ := hZ9
  obtain ⟨y167, hZ9⟩ := hZ9
  obtain ⟨y168, hZ9⟩ := hZ9
  obtain ⟨y169, hZ9⟩ := hZ9
  obtain ⟨y170, hZ9⟩ := hZ9
  obtain ⟨y171, hZ9⟩ := hZ9
  obtain ⟨y172, hZ9⟩ := hZ9
  obtain ⟨y173, hZ9⟩ := hZ9
  obtain ⟨y174, hZ9⟩ := hZ9
  obtain ⟨y175, hZ9⟩ := hZ9
  obtain ⟨hO165, hZ9⟩ := hZ9
  obtain ⟨b176, hZ9⟩ := hZ9
  obtain ⟨b177, hZ9⟩ := hZ9
  obtain ⟨b178, hZ9⟩ := hZ9
  obtain ⟨b179, hZ9⟩ := hZ9
  replace hZ9 := hZ9.2.2.2
  obtain ⟨b183, hZ9⟩ := hZ9
  replace hZ9 := hZ9.2.2.2.2.2.2.2.2.2
  obtain ⟨-, hE194⟩ := hZ9
  replace hO165 : u163[38]? = (some (q 38, .inr (8, [.long y166, .long y167, .ref (q 1), .ref (q 9), .int y168, .int y169, .int y170, .int y171, .int y172, .int y173, .int y174, .long y175])) : Option (Nat × va_E)) := hO165
  obtain ⟨p196, e197⟩ : ∃ z, z = (F_Rea_takeSign y115 y116 y117 y118 y119 y120 y121 y122 y123 y124 t1_0 t2_0) := ⟨_, rfl⟩
  have e198 : y166 = p196.1 := congrArg (fun z => z.1) (hE194.trans e197.symm)
  have e199 : y167 = p196.2.1 := congrArg (fun z => z.2.1) (hE194.trans e197.symm)
  have e200 : y168 = p196.2.2.1 := congrArg (fun z => z.2.2.1) (hE194.trans e197.symm)
  have e201 : y169 = p196.2.2.2.1 := congrArg (fun z => z.2.2.2.1) (hE194.trans e197.symm)
  have e202 : y170 = p196.2.2.2.2.1 := congrArg (fun z => z.2.2.2.2.1) (hE194.trans e197.symm)
  have e203 : y171 = p196.2.2.2.2.2.1 := congrArg (fun z => z.2.2.2.2.2.1) (hE194.trans e197.symm)
  have e204 : y172 = p196.2.2.2.2.2.2.1 := congrArg (fun z => z.2.2.2.2.2.2.1) (hE194.trans e197.symm)
  have e205 : y173 = p196.2.2.2.2.2.2.2.1 := congrArg (fun z => z.2.2.2.2.2.2.2.1) (hE194.trans e197.symm)
  have e206 : y174 = p196.2.2.2.2.2.2.2.2.1 := congrArg (fun z => z.2.2.2.2.2.2.2.2.1) (hE194.trans e197.symm)
  have e207 : y175 = p196.2.2.2.2.2.2.2.2.2 := congrArg (fun z => z.2.2.2.2.2.2.2.2.2) (hE194.trans e197.symm)
  replace b176 : q_F (0 ≤ y170.toInt) := b176
  replace b177 : q_F (y170.toInt ≤ 1) := b177
  replace b178 : q_F (y115.toInt ≤ y166.toInt) := b178
  replace b179 : q_F (y166.toInt ≤ y115.toInt) := b179
  replace b183 : q_F (y169.toInt ≤ y118.toInt) := b183
  replace hT1 := (hu195 _ (by decide)).trans hT1
  replace hT2 := (hu195 _ (by decide)).trans hT2
  replace hT3 := (hu195 _ (by decide)).trans hT3
  replace hT4 := (hu195 _ (by decide)).trans hT4
  replace hT5 := (hu195 _ (by decide)).trans hT5
  replace hT6 := (hu195 _ (by decide)).trans hT6
  replace hT7 := (hu195 _ (by decide)).trans hT7
  replace hT8 := (hu195 _ (by decide)).trans hT8
  replace hT9 := (hu195 _ (by decide)).trans hT9
  replace hT10 := (hu195 _ (by decide)).trans hT10
  replace hT11 := (hu195 _ (by decide)).trans hT11
  replace hT12 := (hu195 _ (by decide)).trans hT12
  replace hF := q_uc hF hu195 (by simp)
  have hR208 := (show F_Rea_floatText_c9 A B C t0_0 t0_1 t0_2 t0_3 t0_4 t0_5 t0_6 t0_7 t0_8 t0_9 t1_0 t2_0 t3_0 t3_1 t4_0 t5_0 t5_1 t6_0 t7_0 t7_1 t8_0 t9_0 t9_1 t10_0 t11_0 t11_1 t12_0 p94 p145 p196 = (F_Rea_floatText A B C t0_0 t0_1 t0_2 t0_3 t0_4 t0_5 t0_6 t0_7 t0_8 t0_9 t1_0 t2_0 t3_0 t3_1 t4_0 t5_0 t5_1 t6_0 t7_0 t7_1 t8_0 t9_0 t9_1 t10_0 t11_0 t11_1 t12_0) from Eq.trans (by rw [e197, e156, e155, e154, e153, e152, e151, e150, e149, e148, e147, F_Rea_floatText_c5.eq_1]) hR157)
  have hS209 := (show True ∧ S_Rea_floatText_c9 A B C t0_0 t0_1 t0_2 t0_3 t0_4 t0_5 t0_6 t0_7 t0_8 t0_9 t1_0 t2_0 t3_0 t3_1 t4_0 t5_0 t5_1 t6_0 t7_0 t7_1 t8_0 t9_0 t9_1 t10_0 t11_0 t11_1 t12_0 p94 p145 p196 from (by rw [e197, e156, e155, e154, e153, e152, e151, e150, e149, e148, e147]; have h := hS158; rw [S_Rea_floatText_c5.eq_1] at h; replace h := q_s2 h; with_reducible exact h))
  refine lv_aload_n hx hb d_10_4_12 rfl (lv_at hl 0 rfl) ?_
  refine q_ldcs (i := 20) C0 V rfl rfl d_10_4_13 ?_
  have ob213 : True ∧ S_Rea_saysRest_20 y166 y167 y168 y169 y170 y171 y172 y173 y174 y175 t1_0 t2_0 := (by rw [e207, e206, e205, e204, e203, e202, e201, e200, e199, e198]; have h := hS209; rw [S_Rea_floatText_c9.eq_1] at h; with_reducible exact h.2.1)
  refine q_goi V (q_runV (As := [.ref (g (8 + 2 * 20))]) (rest := []) (d := 5) (mc := 0) (ms := 0) (ci := 8) C0 V rfl LV_Rea_91 (X_Rea_saysRest_20 l D g q u163   hI y166 y167 y168 y169 y170 y171 y172 y173 y174 y175 hO165 t1_0 hT1 t2_0 hT2 ob213 _) rfl rfl hO165 rfl hl.1 rfl (Nat.le_of_ble_eq_true rfl) ⟨by decide, by decide⟩ ⟨Nat.le_of_ble_eq_true rfl, Nat.le_of_ble_eq_true rfl⟩ d_10_4_15) (fun a216 u214 H locs hp215 V => ?_)
  obtain ⟨rfl, b217, b218, hE219⟩ := hp215
  have e220 : a216 = (F_Rea_saysRest_20 y166 y167 y168 y169 y170 y171 y172 y173 y174 y175 t1_0 t2_0) := hE219
  clear b217
  clear b218
  refine lv_if_eq (tgt := 31) hx hb d_10_4_18 (by decide) (fun c221 => ?_) (fun c221 => ?_)
  ·
    refine lv_aload_n hx hb d_10_4_31 rfl (lv_at hl 1 rfl) ?_
    refine lv_aload_n hx hb d_10_4_32 rfl (lv_at hl 0 rfl) ?_
    refine q_get (ci := 8) (j := 6) (v := .int y170) C0 V i_Rea rfl rfl hO165 (by decide) w_292 rfl d_10_4_33 ?_
    obtain ⟨y224, y225, y226, hO223⟩ := n_flO hI hB2
    refine q_gol V (q_runV (As := [.int y170]) (rest := []) (d := 1) (mc := 0) (ms := 0) (ci := 6) C0 V rfl LV_Rea_104 (X_Flo_signBit l D g q u163 k2 A B C hB2 y170 hI  ⟨(by first | with_reducible exact q_fe b176 | (have t1 : 0 ≤ y170.toInt := b176; omega)), (by first | with_reducible exact q_fe b177 | (have t1 : y170.toInt ≤ 1 := b177; omega))⟩ _) rfl rfl hO223 rfl hl.1 rfl (Nat.le_of_ble_eq_true rfl) ⟨by decide, by decide⟩ ⟨Nat.le_of_ble_eq_true rfl, Nat.le_of_ble_eq_true rfl⟩ d_10_4_36) (fun j229 u227 H locs hp228 V => ?_)
    obtain ⟨rfl, hE230⟩ := hp228
    have e231 : j229 = (F_Flo_signBit A B C y170) := hE230
    refine lv_lstore_n (lv' := [(2, .long j229), (0, .ref (q 38)), (1, .ref (q k2))]) hx hb d_10_4_39 rfl hl (by decide) rfl (fun ls hl => ?_)
    refine lv_aload_n hx hb d_10_4_40 rfl (lv_at hl 1 rfl) ?_
    refine q_ldcs (i := 21) C0 V rfl rfl d_10_4_41 ?_
    have ob232 : True ∧ S_Rea_saysRest_21 y166 y167 y168 y169 y170 y171 y172 y173 y174 y175 t1_0 t2_0 := (by rw [e207, e206, e205, e204, e203, e202, e201, e200, e199, e198]; have h := hS209; rw [S_Rea_floatText_c9.eq_1] at h; replace h := q_s2 h; have c221x := c221; rw [e220, e207, e206, e205, e204, e203, e202, e201, e200, e199, e198] at c221x; rw [if_pos c221x] at h; with_reducible exact h.2.1)
    refine q_goi V (q_runV (As := [.ref (g (8 + 2 * 21))]) (rest := []) (d := 5) (mc := 0) (ms := 0) (ci := 8) C0 V rfl LV_Rea_91 (X_Rea_saysRest_21 l D g q u163   hI y166 y167 y168 y169 y170 y171 y172 y173 y174 y175 hO165 t1_0 hT1 t2_0 hT2 ob232 _) rfl rfl hO165 rfl hl.1 rfl (Nat.le_of_ble_eq_true rfl) ⟨by decide, by decide⟩ ⟨Nat.le_of_ble_eq_true rfl, Nat.le_of_ble_eq_true rfl⟩ d_10_4_43) (fun a235 u233 H locs hp234 V => ?_)
    obtain ⟨rfl, b236, b237, hE238⟩ := hp234
    have e239 : a235 = (F_Rea_saysRest_21 y166 y167 y168 y169 y170 y171 y172 y173 y174 y175 t1_0 t2_0) := hE238
    clear b236
    clear b237
    refine lv_if_eq (tgt := 61) hx hb d_10_4_46 (by decide) (fun c240 => ?_) (fun c240 => ?_)
    ·
      refine lv_aload_n hx hb d_10_4_61 rfl (lv_at hl 1 rfl) ?_
      have ob242 : True ∧ S_Rea_takeHexadecimalMark y166 y167 y168 y169 y170 y171 y172 y173 y174 y175 t1_0 t2_0 := (by rw [e207, e206, e205, e204, e203, e202, e201, e200, e199, e198]; have h := hS209; rw [S_Rea_floatText_c9.eq_1] at h; replace h := q_s2 h; have c221x := c221; rw [e220, e207, e206, e205, e204, e203, e202, e201, e200, e199, e198] at c221x; rw [if_pos c221x] at h; replace h := q_s2 h; have c240x := c240; rw [e239, e207, e206, e205, e204, e203, e202, e201, e200, e199, e198] at c240x; rw [if_pos c240x] at h; with_reducible exact h.2.1)
      refine q_goi V (q_runV (As := []) (rest := []) (d := 2) (mc := 0) (ms := 0) (ci := 8) C0 V rfl LV_Rea_113 (X_Rea_takeHexadecimalMark l D g q u163   hI y166 y167 y168 y169 y170 y171 y172 y173 y174 y175 hO165 t1_0 hT1 t2_0 hT2 ob242 _) rfl rfl hO165 rfl hl.1 rfl (Nat.le_of_ble_eq_true rfl) ⟨by decide, by decide⟩ ⟨Nat.le_of_ble_eq_true rfl, Nat.le_of_ble_eq_true rfl⟩ d_10_4_62) (fun a245 u243 H locs hp244 V => ?_)
      obtain ⟨hI, hZ9⟩ := hp244
      obtain ⟨hu278, hZ9⟩ := hZ9
      obtain ⟨y247, hZ9⟩ := hZ9
      obtain ⟨y248, hZ9⟩ := hZ9
      obtain ⟨y249, hZ9⟩ := hZ9
      obtain ⟨y250, hZ9⟩ := hZ9
      obtain ⟨y251, hZ9⟩ := hZ9
      obtain ⟨y252, hZ9⟩ := hZ9
      obtain ⟨y253, hZ9⟩ := hZ9
      obtain ⟨y254, hZ9⟩ := hZ9
      obtain ⟨y255, hZ9⟩ := hZ9
      obtain ⟨y256, hZ9⟩ := hZ9
      obtain ⟨hO246, hZ9⟩ := hZ9
      replace hZ9 := hZ9.2.2
      obtain ⟨b259, hZ9⟩ := hZ9
      obtain ⟨b260, hZ9⟩ := hZ9
      replace hZ9 := hZ9.2.2.2
      obtain ⟨b264, hZ9⟩ := hZ9
      replace hZ9 := hZ9.2.2.2.2.2.2.2.2.2.2.2
      obtain ⟨-, hE277⟩ := hZ9
      replace hO246 : u243[38]? = (some (q 38, .inr (8, [.long y247, .long y248, .ref (q 1), .ref (q 9), .int y249, .int y250, .int y251, .int y252, .int y253, .int y254, .int y255, .long y256])) : Option (Nat × va_E)) := hO246
      obtain ⟨p279, e280⟩ : ∃ z, z = (F_Rea_takeHexadecimalMark y166 y167 y168 y169 y170 y171 y172 y173 y174 y175 t1_0 t2_0) := ⟨_, rfl⟩
      have e281 : a245 = p279.1 := congrArg (fun z => z.1) (hE277.trans e280.symm)
      have e282 : y247 = p279.2.1 := congrArg (fun z => z.2.1) (hE277.trans e280.symm)
      have e283 : y248 = p279.2.2.1 := congrArg (fun z => z.2.2.1) (hE277.trans e280.symm)
      have e284 : y249 = p279.2.2.2.1 := congrArg (fun z => z.2.2.2.1) (hE277.trans e280.symm)
      have e285 : y250 = p279.2.2.2.2.1 := congrArg (fun z => z.2.2.2.2.1) (hE277.trans e280.symm)
      have e286 : y251 = p279.2.2.2.2.2.1 := congrArg (fun z => z.2.2.2.2.2.1) (hE277.trans e280.symm)
      have e287 : y252 = p279.2.2.2.2.2.2.1 := congrArg (fun z => z.2.2.2.2.2.2.1) (hE277.trans e280.symm)
      have e288 : y253 = p279.2.2.2.2.2.2.2.1 := congrArg (fun z => z.2.2.2.2.2.2.2.1) (hE277.trans e280.symm)
      have e289 : y254 = p279.2.2.2.2.2.2.2.2.1 := congrArg (fun z => z.2.2.2.2.2.2.2.2.1) (hE277.trans e280.symm)
      have e290 : y255 = p279.2.2.2.2.2.2.2.2.2.1 := congrArg (fun z => z.2.2.2.2.2.2.2.2.2.1) (hE277.trans e280.symm)
      have e291 : y256 = p279.2.2.2.2.2.2.2.2.2.2 := congrArg (fun z => z.2.2.2.2.2.2.2.2.2.2) (hE277.trans e280.symm)
      replace b259 : q_F (y166.toInt ≤ y247.toInt) := b259
      replace b260 : q_F (y247.toInt ≤ y166.toInt) := b260
      replace b264 : q_F (y250.toInt ≤ y169.toInt) := b264
      replace hT1 := (hu278 _ (by decide)).trans hT1
      replace hT2 := (hu278 _ (by decide)).trans hT2
      replace hT3 := (hu278 _ (by decide)).trans hT3
      replace hT4 := (hu278 _ (by decide)).trans hT4
      replace hT5 := (hu278 _ (by decide)).trans hT5
      replace hT6 := (hu278 _ (by decide)).trans hT6
      replace hT7 := (hu278 _ (by decide)).trans hT7
      replace hT8 := (hu278 _ (by decide)).trans hT8
      replace hT9 := (hu278 _ (by decide)).trans hT9
      replace hT10 := (hu278 _ (by decide)).trans hT10
      replace hT11 := (hu278 _ (by decide)).trans hT11
      replace hT12 := (hu278 _ (by decide)).trans hT12
      replace hF := q_uc hF hu278 (by simp)
      have hR292 := (show F_Rea_floatText_c62 A B C t0_0 t0_1 t0_2 t0_3 t0_4 t0_5 t0_6 t0_7 t0_8 t0_9 t1_0 t2_0 t3_0 t3_1 t4_0 t5_0 t5_1 t6_0 t7_0 t7_1 t8_0 t9_0 t9_1 t10_0 t11_0 t11_1 t12_0 p94 p145 p196 j229 p279 = (F_Rea_floatText A B C t0_0 t0_1 t0_2 t0_3 t0_4 t0_5 t0_6 t0_7 t0_8 t0_9 t1_0 t2_0 t3_0 t3_1 t4_0 t5_0 t5_1 t6_0 t7_0 t7_1 t8_0 t9_0 t9_1 t10_0 t11_0 t11_1 t12_0) from Eq.trans (by have c221x := c221; rw [e220, e207, e206, e205, e204, e203, e202, e201, e200, e199, e198] at c221x; have c240x := c240; rw [e239, e207, e206, e205, e204, e203, e202, e201, e200, e199, e198] at c240x; rw [e280, e231, e207, e206, e205, e204, e203, e202, e201, e200, e199, e198, F_Rea_floatText_c9.eq_1, if_pos c221x, if_pos c240x]) hR208)
      have hS293 := (show True ∧ S_Rea_floatText_c62 A B C t0_0 t0_1 t0_2 t0_3 t0_4 t0_5 t0_6 t0_7 t0_8 t0_9 t1_0 t2_0 t3_0 t3_1 t4_0 t5_0 t5_1 t6_0 t7_0 t7_1 t8_0 t9_0 t9_1 t10_0 t11_0 t11_1 t12_0 p94 p145 p196 j229 p279 from (by rw [e280, e231, e207, e206, e205, e204, e203, e202, e201, e200, e199, e198]; have h := hS209; rw [S_Rea_floatText_c9.eq_1] at h; replace h := q_s2 h; have c221x := c221; rw [e220, e207, e206, e205, e204, e203, e202, e201, e200, e199, e198] at c221x; rw [if_pos c221x] at h; replace h := q_s2 h; have c240x := c240; rw [e239, e207, e206, e205, e204, e203, e202, e201, e200, e199, e198] at c240x; rw [if_pos c240x] at h; replace h := q_s2 h; with_reducible exact h))
      refine lv_istore (lv' := [(4, .int a245), (2, .long j229), (0, .ref (q 38)), (1, .ref (q k2))]) hx hb d_10_4_65 hl (by decide) rfl (fun ls hl => ?_)
      refine lv_iload hx hb d_10_4_67 (lv_at hl 0 rfl) ?_
      refine q_join (X := Int64 × Int64 × Int32 × Int32 × Int32 × Int32 × Int32 × Int32 × Int32 × Int64 × Int32 × Int32 × (Nat → Int32)) (fun z H locs ls w339 => q_F (0 ≤ z.2.2.2.2.2.2.1.toInt) ∧ q_F (0 ≤ z.2.2.2.2.2.2.2.2.1.toInt) ∧ q_F (z.2.2.2.2.2.2.2.2.1.toInt ≤ 1) ∧ q_F (0 ≤ z.2.2.2.2.2.2.2.2.2.2.1.toInt) ∧ q_F (z.2.2.2.2.2.2.2.2.2.2.1.toInt ≤ 4100) ∧ q_F (0 ≤ z.2.2.2.2.2.2.2.2.2.2.2.1.toInt) ∧ q_F (z.2.2.2.2.2.2.2.2.2.2.2.1.toInt ≤ 0) ∧ q_F (y247.toInt ≤ z.1.toInt) ∧ q_F (z.1.toInt ≤ y247.toInt) ∧ q_F (y248.toInt ≤ z.2.1.toInt) ∧ q_F (z.2.1.toInt ≤ y248.toInt) ∧ q_F (y250.toInt ≤ z.2.2.2.1.toInt) ∧ q_F (z.2.2.2.1.toInt ≤ y250.toInt) ∧ q_F (y251.toInt ≤ z.2.2.2.2.1.toInt) ∧ q_F (z.2.2.2.2.1.toInt ≤ y251.toInt) ∧ q_Wd D g (va_A ws sz) s w339 H locs ∧ lv_has ls 5 [(4, .int a245), (2, .long j229), (0, .ref (q 38)), (1, .ref (q k2))] ∧ q_I (nsh g q) q w339 ∧ q_un ws w339 [10, 11, 12, 13, 20, 21, 22, 23, 24, 25, 38] ∧ w339[38]? = (some (q 38, .inr (8, [.long z.1, .long z.2.1, .ref (q 1), .ref (q 9), .int z.2.2.1, .int z.2.2.2.1, .int z.2.2.2.2.1, .int z.2.2.2.2.2.1, .int z.2.2.2.2.2.2.1, .int z.2.2.2.2.2.2.2.1, .int z.2.2.2.2.2.2.2.2.1, .long z.2.2.2.2.2.2.2.2.2.1])) : Option (Nat × va_E)) ∧ w339[1]? = (some (q 1, .inr (1, [.ref (q 2), .int 4100, .int t1_0])) : Option (Nat × va_E)) ∧ w339[2]? = (some (q 2, .inl (g 1, (513 : Int32).toNatClampNeg, .inr (.inl t2_0))) : Option (Nat × va_E)) ∧ w339[10]? = (some (q 10, .inr (2, [.ref (q 11), .int z.2.2.2.2.2.2.2.2.2.2.1, .int z.2.2.2.2.2.2.2.2.2.2.2.1])) : Option (Nat × va_E)) ∧ w339[11]? = (some (q 11, .inl (g 0, (220 : Int32).toNatClampNeg, .inl z.2.2.2.2.2.2.2.2.2.2.2.2)) : Option (Nat × va_E)) ∧ w339[22]? = (some (q 22, .inr (2, [.ref (q 23), .int t5_0, .int t5_1])) : Option (Nat × va_E)) ∧ w339[23]? = (some (q 23, .inl (g 0, (220 : Int32).toNatClampNeg, .inl t6_0)) : Option (Nat × va_E)) ∧ w339[24]? = (some (q 24, .inr (2, [.ref (q 25), .int t7_0, .int t7_1])) : Option (Nat × va_E)) ∧ w339[25]? = (some (q 25, .inl (g 0, (220 : Int32).toNatClampNeg, .inl t8_0)) : Option (Nat × va_E)) ∧ w339[12]? = (some (q 12, .inr (2, [.ref (q 13), .int t9_0, .int t9_1])) : Option (Nat × va_E)) ∧ w339[13]? = (some (q 13, .inl (g 0, (220 : Int32).toNatClampNeg, .inl t10_0)) : Option (Nat × va_E)) ∧ w339[20]? = (some (q 20, .inr (2, [.ref (q 21), .int t11_0, .int t11_1])) : Option (Nat × va_E)) ∧ w339[21]? = (some (q 21, .inl (g 0, (220 : Int32).toNatClampNeg, .inl t12_0)) : Option (Nat × va_E)) ∧ F_Rea_floatText_J89 A B C t0_0 t0_1 t0_2 t0_3 t0_4 t0_5 t0_6 t0_7 t0_8 t0_9 t1_0 t2_0 t3_0 t3_1 t4_0 t5_0 t5_1 t6_0 t7_0 t7_1 t8_0 t9_0 t9_1 t10_0 t11_0 t11_1 t12_0 p94 p145 p196 j229 p279 a245 z.1 z.2.1 z.2.2.1 z.2.2.2.1 z.2.2.2.2.1 z.2.2.2.2.2.1 z.2.2.2.2.2.2.1 z.2.2.2.2.2.2.2.1 z.2.2.2.2.2.2.2.2.1 z.2.2.2.2.2.2.2.2.2.1 z.2.2.2.2.2.2.2.2.2.2.1 z.2.2.2.2.2.2.2.2.2.2.2.1 z.2.2.2.2.2.2.2.2.2.2.2.2 = (F_Rea_floatText A B C t0_0 t0_1 t0_2 t0_3 t0_4 t0_5 t0_6 t0_7 t0_8 t0_9 t1_0 t2_0 t3_0 t3_1 t4_0 t5_0 t5_1 t6_0 t7_0 t7_1 t8_0 t9_0 t9_1 t10_0 t11_0 t11_1 t12_0) ∧ True ∧ S_Rea_floatText_J89 A B C t0_0 t0_1 t0_2 t0_3 t0_4 t0_5 t0_6 t0_7 t0_8 t0_9 t1_0 t2_0 t3_0 t3_1 t4_0 t5_0 t5_1 t6_0 t7_0 t7_1 t8_0 t9_0 t9_1 t10_0 t11_0 t11_1 t12_0 p94 p145 p196 j229 p279 a245 z.1 z.2.1 z.2.2.1 z.2.2.2.1 z.2.2.2.2.1 z.2.2.2.2.2.1 z.2.2.2.2.2.2.1 z.2.2.2.2.2.2.2.1 z.2.2.2.2.2.2.2.2.1 z.2.2.2.2.2.2.2.2.2.1 z.2.2.2.2.2.2.2.2.2.2.1 z.2.2.2.2.2.2.2.2.2.2.2.1 z.2.2.2.2.2.2.2.2.2.2.2.2) (fun z => []) 89 0 0 ?_ ?_
      ·
        rintro ⟨lx297, lx298, lx299, lx300, lx301, lx302, lx303, lx304, lx305, lx306, lx307, lx308, lx309⟩ H locs ls w339 ⟨i324, i325, i326, i327, i328, i329, i330, i331, i332, i333, i334, i335, i336, i337, i338, V, hl, hI, hF, hO310, hO311, hA312, hO313, hA314, hO315, hA316, hO317, hA318, hO319, hA320, hO321, hA322, hR340, hS341⟩
        clear i324
        replace i325 : q_F (0 ≤ lx305.toInt) := i325
        replace i326 : q_F (lx305.toInt ≤ 1) := i326
        replace i327 : q_F (0 ≤ lx307.toInt) := i327
        replace i328 : q_F (lx307.toInt ≤ 4100) := i328
        replace i329 : q_F (0 ≤ lx308.toInt) := i329
        replace i330 : q_F (lx308.toInt ≤ 0) := i330
        replace i331 : q_F (y247.toInt ≤ lx297.toInt) := i331
        replace i332 : q_F (lx297.toInt ≤ y247.toInt) := i332
        clear i333
        clear i334
        clear i335
        replace i336 : q_F (lx300.toInt ≤ y250.toInt) := i336
        clear i337
        clear i338
        replace hl : lv_has ls 5 [(4, .int a245), (2, .long j229), (0, .ref (q 38)), (1, .ref (q k2))] := hl
        replace hO310 : w339[38]? = (some (q 38, .inr (8, [.long lx297, .long lx298, .ref (q 1), .ref (q 9), .int lx299, .int lx300, .int lx301, .int lx302, .int lx303, .int lx304, .int lx305, .long lx306])) : Option (Nat × va_E)) := hO310
        replace hO311 : w339[1]? = (some (q 1, .inr (1, [.ref (q 2), .int 4100, .int t1_0])) : Option (Nat × va_E)) := hO311
        replace hA312 : w339[2]? = (some (q 2, .inl (g 1, (513 : Int32).toNatClampNeg, .inr (.inl t2_0))) : Option (Nat × va_E)) := hA312
        replace hO313 : w339[10]? = (some (q 10, .inr (2, [.ref (q 11), .int lx307, .int lx308])) : Option (Nat × va_E)) := hO313
        replace hA314 : w339[11]? = (some (q 11, .inl (g 0, (220 : Int32).toNatClampNeg, .inl lx309)) : Option (Nat × va_E)) := hA314
        replace hO315 : w339[22]? = (some (q 22, .inr (2, [.ref (q 23), .int t5_0, .int t5_1])) : Option (Nat × va_E)) := hO315
        replace hA316 : w339[23]? = (some (q 23, .inl (g 0, (220 : Int32).toNatClampNeg, .inl t6_0)) : Option (Nat × va_E)) := hA316
        replace hO317 : w339[24]? = (some (q 24, .inr (2, [.ref (q 25), .int t7_0, .int t7_1])) : Option (Nat × va_E)) := hO317
        replace hA318 : w339[25]? = (some (q 25, .inl (g 0, (220 : Int32).toNatClampNeg, .inl t8_0)) : Option (Nat × va_E)) := hA318
        replace hO319 : w339[12]? = (some (q 12, .inr (2, [.ref (q 13), .int t9_0, .int t9_1])) : Option (Nat × va_E)) := hO319
        replace hA320 : w339[13]? = (some (q 13, .inl (g 0, (220 : Int32).toNatClampNeg, .inl t10_0)) : Option (Nat × va_E)) := hA320
        replace hO321 : w339[20]? = (some (q 20, .inr (2, [.ref (q 21), .int t11_0, .int t11_1])) : Option (Nat × va_E)) := hO321
        replace hA322 : w339[21]? = (some (q 21, .inl (g 0, (220 : Int32).toNatClampNeg, .inl t12_0)) : Option (Nat × va_E)) := hA322
        refine lv_aload_n hx hb d_10_4_89 rfl (lv_at hl 2 rfl) ?_
        have ob345 : True ∧ S_Rea_takeEnding lx297 lx298 lx299 lx300 lx301 lx302 lx303 lx304 lx305 lx306 t1_0 t2_0 := (by have h := hS341; rw [S_Rea_floatText_J89.eq_1] at h; with_reducible exact h.2.1)
        refine q_goi V (q_runV (As := []) (rest := []) (d := 3) (mc := 0) (ms := 0) (ci := 8) C0 V rfl LV_Rea_123 (X_Rea_takeEnding l D g q w339   hI lx297 lx298 lx299 lx300 lx301 lx302 lx303 lx304 lx305 lx306 hO310 t1_0 hO311 t2_0 hA312 ob345 _) rfl rfl hO310 rfl hl.1 rfl (Nat.le_of_ble_eq_true rfl) ⟨by decide, by decide⟩ ⟨Nat.le_of_ble_eq_true rfl, Nat.le_of_ble_eq_true rfl⟩ d_10_4_90) (fun a348 u346 H locs hp347 V => ?_)
        obtain ⟨hI, hZ9⟩ := hp347
        obtain ⟨hu381, hZ9⟩ := hZ9
        obtain ⟨y350, hZ9⟩ := hZ9
        obtain ⟨y351, hZ9⟩ := hZ9
        obtain ⟨y352, hZ9⟩ := hZ9
        obtain ⟨y353, hZ9⟩ := hZ9
        obtain ⟨y354, hZ9⟩ := hZ9
        obtain ⟨y355, hZ9⟩ := hZ9
        obtain ⟨y356, hZ9⟩ := hZ9
        obtain ⟨y357, hZ9⟩ := hZ9
        obtain ⟨y358, hZ9⟩ := hZ9
        obtain ⟨y359, hZ9⟩ := hZ9
        obtain ⟨hO349, hZ9⟩ := hZ9
        replace hZ9 := hZ9.2.2
        obtain ⟨b362, hZ9⟩ := hZ9
        obtain ⟨b363, hZ9⟩ := hZ9
        replace hZ9 := hZ9.2.2.2
        obtain ⟨b367, hZ9⟩ := hZ9
        replace hZ9 := hZ9.2.2.2.2.2.2.2.2
        obtain ⟨b376, hZ9⟩ := hZ9
        obtain ⟨b377, hZ9⟩ := hZ9
        replace hZ9 := hZ9.2
        obtain ⟨-, hE380⟩ := hZ9
        replace hO349 : u346[38]? = (some (q 38, .inr (8, [.long y350, .long y351, .ref (q 1), .ref (q 9), .int y352, .int y353, .int y354, .int y355, .int y356, .int y357, .int y358, .long y359])) : Option (Nat × va_E)) := hO349
        obtain ⟨p382, e383⟩ : ∃ z, z = (F_Rea_takeEnding lx297 lx298 lx299 lx300 lx301 lx302 lx303 lx304 lx305 lx306 t1_0 t2_0) := ⟨_, rfl⟩
        have e384 : a348 = p382.1 := congrArg (fun z => z.1) (hE380.trans e383.symm)
        have e385 : y350 = p382.2.1 := congrArg (fun z => z.2.1) (hE380.trans e383.symm)
        have e386 : y351 = p382.2.2.1 := congrArg (fun z => z.2.2.1) (hE380.trans e383.symm)
        have e387 : y352 = p382.2.2.2.1 := congrArg (fun z => z.2.2.2.1) (hE380.trans e383.symm)
        have e388 : y353 = p382.2.2.2.2.1 := congrArg (fun z => z.2.2.2.2.1) (hE380.trans e383.symm)
        have e389 : y354 = p382.2.2.2.2.2.1 := congrArg (fun z => z.2.2.2.2.2.1) (hE380.trans e383.symm)
        have e390 : y355 = p382.2.2.2.2.2.2.1 := congrArg (fun z => z.2.2.2.2.2.2.1) (hE380.trans e383.symm)
        have e391 : y356 = p382.2.2.2.2.2.2.2.1 := congrArg (fun z => z.2.2.2.2.2.2.2.1) (hE380.trans e383.symm)
        have e392 : y357 = p382.2.2.2.2.2.2.2.2.1 := congrArg (fun z => z.2.2.2.2.2.2.2.2.1) (hE380.trans e383.symm)
        have e393 : y358 = p382.2.2.2.2.2.2.2.2.2.1 := congrArg (fun z => z.2.2.2.2.2.2.2.2.2.1) (hE380.trans e383.symm)
        have e394 : y359 = p382.2.2.2.2.2.2.2.2.2.2 := congrArg (fun z => z.2.2.2.2.2.2.2.2.2.2) (hE380.trans e383.symm)
        replace b362 : q_F (lx297.toInt ≤ y350.toInt) := b362
        replace b363 : q_F (y350.toInt ≤ lx297.toInt) := b363
        replace b367 : q_F (y353.toInt ≤ lx300.toInt) := b367
        replace b376 : q_F (lx305.toInt ≤ y358.toInt) := b376
        replace b377 : q_F (y358.toInt ≤ lx305.toInt) := b377
        replace hO313 := (hu381 _ (by decide)).trans hO313
        replace hA314 := (hu381 _ (by decide)).trans hA314
        replace hO315 := (hu381 _ (by decide)).trans hO315
        replace hA316 := (hu381 _ (by decide)).trans hA316
        replace hO317 := (hu381 _ (by decide)).trans hO317
        replace hA318 := (hu381 _ (by decide)).trans hA318
        replace hO319 := (hu381 _ (by decide)).trans hO319
        replace hA320 := (hu381 _ (by decide)).trans hA320
        replace hO321 := (hu381 _ (by decide)).trans hO321
        replace hA322 := (hu381 _ (by decide)).trans hA322
        replace hF := q_uc hF hu381 (by simp)
        have hR395 := (show F_Rea_floatText_c90 A B C t0_0 t0_1 t0_2 t0_3 t0_4 t0_5 t0_6 t0_7 t0_8 t0_9 t1_0 t2_0 t3_0 t3_1 t4_0 t5_0 t5_1 t6_0 t7_0 t7_1 t8_0 t9_0 t9_1 t10_0 t11_0 t11_1 t12_0 p94 p145 p196 j229 p279 a245 lx297 lx298 lx299 lx300 lx301 lx302 lx303 lx304 lx305 lx306 lx307 lx308 lx309 p382 = (F_Rea_floatText A B C t0_0 t0_1 t0_2 t0_3 t0_4 t0_5 t0_6 t0_7 t0_8 t0_9 t1_0 t2_0 t3_0 t3_1 t4_0 t5_0 t5_1 t6_0 t7_0 t7_1 t8_0 t9_0 t9_1 t10_0 t11_0 t11_1 t12_0) from Eq.trans (by rw [e383, F_Rea_floatText_J89.eq_1]) hR340)
        have hS396 := (show True ∧ S_Rea_floatText_c90 A B C t0_0 t0_1 t0_2 t0_3 t0_4 t0_5 t0_6 t0_7 t0_8 t0_9 t1_0 t2_0 t3_0 t3_1 t4_0 t5_0 t5_1 t6_0 t7_0 t7_1 t8_0 t9_0 t9_1 t10_0 t11_0 t11_1 t12_0 p94 p145 p196 j229 p279 a245 lx297 lx298 lx299 lx300 lx301 lx302 lx303 lx304 lx305 lx306 lx307 lx308 lx309 p382 from (by rw [e383]; have h := hS341; rw [S_Rea_floatText_J89.eq_1] at h; replace h := q_s2 h; with_reducible exact h))
        refine lv_if_ne (tgt := 98) hx hb d_10_4_93 (by decide) (fun c400 => ?_) (fun c400 => ?_)
        ·
          refine lv_iload hx hb d_10_4_98 (lv_at hl 0 rfl) ?_
          refine lv_if_eq (tgt := 146) hx hb d_10_4_100 (by decide) (fun c402 => ?_) (fun c402 => ?_)
          ·
            refine lv_aload_n hx hb d_10_4_146 rfl (lv_at hl 2 rfl) ?_
            refine lv_aload_n hx hb d_10_4_147 rfl (lv_at hl 3 rfl) ?_
            refine lv_aload_n hx hb d_10_4_148 rfl (lv_at hl 2 rfl) ?_
            refine q_get (ci := 8) (j := 3) (v := .ref (q 9)) C0 V i_Rea rfl rfl hO349 (by decide) w_289 rfl d_10_4_149 ?_
            have hO404 := n_o9 hI
            refine q_get (ci := 4) (j := 0) (v := .ref (q 10)) C0 V i_Mil rfl rfl hO404 (by decide) w_109 rfl d_10_4_152 ?_
            refine lv_aload_n hx hb d_10_4_155 rfl (lv_at hl 2 rfl) ?_
            refine q_get (ci := 8) (j := 7) (v := .int y355) C0 V i_Rea rfl rfl hO349 (by decide) w_293 rfl d_10_4_156 ?_
            refine lv_aload_n hx hb d_10_4_159 rfl (lv_at hl 2 rfl) ?_
            refine q_get (ci := 8) (j := 9) (v := .int y357) C0 V i_Rea rfl rfl hO349 (by decide) w_295 rfl d_10_4_160 ?_
            refine lv_isub hx hb d_10_4_163 ?_
            obtain ⟨a405, e406⟩ := q_nm (y355 - y357 : Int32)
            refine q_ti (v := a405) e406 ?_
            refine lv_i2l hx hb d_10_4_164 rfl ?_
            obtain ⟨j407, e408⟩ := q_nm (a405.toInt64 : Int64)
            refine q_tl (v := j407) e408 ?_
            refine lv_aload_n hx hb d_10_4_165 rfl (lv_at hl 2 rfl) ?_
            refine q_get (ci := 8) (j := 11) (v := .long y359) C0 V i_Rea rfl rfl hO349 (by decide) w_297 rfl d_10_4_166 ?_
            refine lv_lsub hx hb d_10_4_169 ?_
            obtain ⟨j410, e411⟩ := q_nm (j407 - y359 : Int64)
            refine q_tl (v := j410) e411 ?_
            have ob412 : True ∧ S_Flo_nearestDecimal A B C (220 : Int32) j410 t5_0 t5_1 t6_0 t7_0 t7_1 t8_0 t9_0 t9_1 t10_0 t11_0 t11_1 t12_0 lx307 lx308 lx309 := (by rw [← e411, ← e408, ← e406, e394, e392, e390]; have h := hS396; rw [S_Rea_floatText_c90.eq_1] at h; have c400x := c400; rw [e384] at c400x; rw [if_neg c400x] at h; rw [if_pos c402] at h; with_reducible exact h.2.1)
            obtain ⟨y414, y415, y416, hO413⟩ := n_flO hI hB2
            refine q_gol V (q_runV (As := [.ref (q 10), .long j410]) (rest := [.ref (q 38)]) (d := 5) (mc := 0) (ms := 0) (ci := 6) C0 V rfl LV_Rea_135 (X_Flo_nearestDecimal l D g q u346 k2 A B C hB2 10 220 (n_b10 g q) (by decide) j410 (by decide) (by decide) (by decide) (by decide) (by decide) (by decide) (by decide) (by decide) (by decide) (by decide) hI t5_0 t5_1 hO315 t6_0 hA316 t7_0 t7_1 hO317 t8_0 hA318 t9_0 t9_1 hO319 t10_0 hA320 t11_0 t11_1 hO321 t12_0 hA322 lx307 lx308 hO313 lx309 hA314 ob412 _) rfl rfl hO413 rfl hl.1 rfl (Nat.le_of_ble_eq_true rfl) ⟨by decide, by decide⟩ ⟨Nat.le_of_ble_eq_true rfl, Nat.le_of_ble_eq_true rfl⟩ d_10_4_170) (fun j419 u417 H locs hp418 V => ?_)
            obtain ⟨hI, hZ9⟩ := hp418
            obtain ⟨hu457, hZ9⟩ := hZ9
            obtain ⟨y421, hZ9⟩ := hZ9
            obtain ⟨y422, hZ9⟩ := hZ9
            obtain ⟨f423, hZ9⟩ := hZ9
            obtain ⟨y426, hZ9⟩ := hZ9
            obtain ⟨y427, hZ9⟩ := hZ9
            obtain ⟨f428, hZ9⟩ := hZ9
            obtain ⟨y431, hZ9⟩ := hZ9
            obtain ⟨y432, hZ9⟩ := hZ9
            obtain ⟨f433, hZ9⟩ := hZ9
            obtain ⟨y436, hZ9⟩ := hZ9
            obtain ⟨y437, hZ9⟩ := hZ9
            obtain ⟨f438, hZ9⟩ := hZ9
            obtain ⟨hO420, hZ9⟩ := hZ9
            obtain ⟨hA424, hZ9⟩ := hZ9
            obtain ⟨hO425, hZ9⟩ := hZ9
            obtain ⟨hA429, hZ9⟩ := hZ9
            obtain ⟨hO430, hZ9⟩ := hZ9
            obtain ⟨hA434, hZ9⟩ := hZ9
            obtain ⟨hO435, hZ9⟩ := hZ9
            obtain ⟨hA439, hZ9⟩ := hZ9
            obtain ⟨b440, hZ9⟩ := hZ9
            obtain ⟨b441, hZ9⟩ := hZ9
            obtain ⟨b442, hZ9⟩ := hZ9
            obtain ⟨b443, hZ9⟩ := hZ9
            obtain ⟨b444, hZ9⟩ := hZ9
            obtain ⟨b445, hZ9⟩ := hZ9
            obtain ⟨b446, hZ9⟩ := hZ9
            obtain ⟨b447, hZ9⟩ := hZ9
            obtain ⟨b448, hZ9⟩ := hZ9
            obtain ⟨b449, hZ9⟩ := hZ9
            obtain ⟨b450, hZ9⟩ := hZ9
            obtain ⟨b451, hZ9⟩ := hZ9
            obtain ⟨b452, hZ9⟩ := hZ9
            obtain ⟨b453, hZ9⟩ := hZ9
            obtain ⟨b454, hZ9⟩ := hZ9
            obtain ⟨b455, hE456⟩ := hZ9
            replace hO420 : u417[22]? = (some (q 22, .inr (2, [.ref (q 23), .int y421, .int y422])) : Option (Nat × va_E)) := hO420
            replace hA424 : u417[23]? = (some (q 23, .inl (g 0, (220 : Int32).toNatClampNeg, .inl f423)) : Option (Nat × va_E)) := hA424
            replace hO425 : u417[24]? = (some (q 24, .inr (2, [.ref (q 25), .int y426, .int y427])) : Option (Nat × va_E)) := hO425
            replace hA429 : u417[25]? = (some (q 25, .inl (g 0, (220 : Int32).toNatClampNeg, .inl f428)) : Option (Nat × va_E)) := hA429
            replace hO430 : u417[12]? = (some (q 12, .inr (2, [.ref (q 13), .int y431, .int y432])) : Option (Nat × va_E)) := hO430
            replace hA434 : u417[13]? = (some (q 13, .inl (g 0, (220 : Int32).toNatClampNeg, .inl f433)) : Option (Nat × va_E)) := hA434
            replace hO435 : u417[20]? = (some (q 20, .inr (2, [.ref (q 21), .int y436, .int y437])) : Option (Nat × va_E)) := hO435
            replace hA439 : u417[21]? = (some (q 21, .inl (g 0, (220 : Int32).toNatClampNeg, .inl f438)) : Option (Nat × va_E)) := hA439
            obtain ⟨p458, e459⟩ : ∃ z, z = (F_Flo_nearestDecimal A B C (220 : Int32) j410 t5_0 t5_1 t6_0 t7_0 t7_1 t8_0 t9_0 t9_1 t10_0 t11_0 t11_1 t12_0 lx307 lx308 lx309) := ⟨_, rfl⟩
            have e460 : j419 = p458.1 := congrArg (fun z => z.1) (hE456.trans e459.symm)
            have e461 : y421 = p458.2.1 := congrArg (fun z => z.2.1) (hE456.trans e459.symm)
            have e462 : y422 = p458.2.2.1 := congrArg (fun z => z.2.2.1) (hE456.trans e459.symm)
            have e463 : f423 = p458.2.2.2.1 := congrArg (fun z => z.2.2.2.1) (hE456.trans e459.symm)
            have e464 : y426 = p458.2.2.2.2.1 := congrArg (fun z => z.2.2.2.2.1) (hE456.trans e459.symm)
            have e465 : y427 = p458.2.2.2.2.2.1 := congrArg (fun z => z.2.2.2.2.2.1) (hE456.trans e459.symm)
            have e466 : f428 = p458.2.2.2.2.2.2.1 := congrArg (fun z => z.2.2.2.2.2.2.1) (hE456.trans e459.symm)
            have e467 : y431 = p458.2.2.2.2.2.2.2.1 := congrArg (fun z => z.2.2.2.2.2.2.2.1) (hE456.trans e459.symm)
            have e468 : y432 = p458.2.2.2.2.2.2.2.2.1 := congrArg (fun z => z.2.2.2.2.2.2.2.2.1) (hE456.trans e459.symm)
            have e469 : f433 = p458.2.2.2.2.2.2.2.2.2.1 := congrArg (fun z => z.2.2.2.2.2.2.2.2.2.1) (hE456.trans e459.symm)
            have e470 : y436 = p458.2.2.2.2.2.2.2.2.2.2.1 := congrArg (fun z => z.2.2.2.2.2.2.2.2.2.2.1) (hE456.trans e459.symm)
            have e471 : y437 = p458.2.2.2.2.2.2.2.2.2.2.2.1 := congrArg (fun z => z.2.2.2.2.2.2.2.2.2.2.2.1) (hE456.trans e459.symm)
            have e472 : f438 = p458.2.2.2.2.2.2.2.2.2.2.2.2 := congrArg (fun z => z.2.2.2.2.2.2.2.2.2.2.2.2) (hE456.trans e459.symm)
            replace b440 : q_F (0 ≤ y421.toInt) := b440
            replace b441 : q_F (y421.toInt ≤ 220) := b441
            replace b442 : q_F (0 ≤ y422.toInt) := b442
            replace b443 : q_F (0 ≤ y426.toInt) := b443
            replace b444 : q_F (y426.toInt ≤ 220) := b444
            replace b445 : q_F (0 ≤ y427.toInt) := b445
            replace b446 : q_F (y427.toInt ≤ 1) := b446
            replace b447 : q_F (0 ≤ y431.toInt) := b447
            replace b448 : q_F (y431.toInt ≤ 220) := b448
            replace b449 : q_F (0 ≤ y432.toInt) := b449
            replace b450 : q_F (0 ≤ y436.toInt) := b450
            replace b451 : q_F (y436.toInt ≤ 220) := b451
            replace b452 : q_F (0 ≤ y437.toInt) := b452
            replace b453 : q_F (y437.toInt ≤ 1) := b453
            replace b454 : q_F (y422.toInt ≤ lx308.toInt + 1) := b454
            replace b455 : q_F (y432.toInt ≤ t9_1.toInt) := b455
            replace hO349 := (hu457 _ (by decide)).trans hO349
            replace hO313 := (hu457 _ (by decide)).trans hO313
            replace hA314 := (hu457 _ (by decide)).trans hA314
            replace hF := q_uc hF hu457 (by simp)
            have hR473 := (show F_Rea_floatText_c170 A B C t0_0 t0_1 t0_2 t0_3 t0_4 t0_5 t0_6 t0_7 t0_8 t0_9 t1_0 t2_0 t3_0 t3_1 t4_0 t5_0 t5_1 t6_0 t7_0 t7_1 t8_0 t9_0 t9_1 t10_0 t11_0 t11_1 t12_0 p94 p145 p196 j229 p279 a245 lx297 lx298 lx299 lx300 lx301 lx302 lx303 lx304 lx305 lx306 lx307 lx308 lx309 p382 y350 y351 y352 y353 y354 y355 y356 y357 y358 y359 p458 = (F_Rea_floatText A B C t0_0 t0_1 t0_2 t0_3 t0_4 t0_5 t0_6 t0_7 t0_8 t0_9 t1_0 t2_0 t3_0 t3_1 t4_0 t5_0 t5_1 t6_0 t7_0 t7_1 t8_0 t9_0 t9_1 t10_0 t11_0 t11_1 t12_0) from Eq.trans (by have c400x := c400; rw [e384] at c400x; rw [e459, ← e411, ← e408, ← e406, e394, e393, e392, e391, e390, e389, e388, e387, e386, e385, F_Rea_floatText_c90.eq_1, if_neg c400x, if_pos c402]) hR395)
            have hS474 := (show True ∧ S_Rea_floatText_c170 A B C t0_0 t0_1 t0_2 t0_3 t0_4 t0_5 t0_6 t0_7 t0_8 t0_9 t1_0 t2_0 t3_0 t3_1 t4_0 t5_0 t5_1 t6_0 t7_0 t7_1 t8_0 t9_0 t9_1 t10_0 t11_0 t11_1 t12_0 p94 p145 p196 j229 p279 a245 lx297 lx298 lx299 lx300 lx301 lx302 lx303 lx304 lx305 lx306 lx307 lx308 lx309 p382 y350 y351 y352 y353 y354 y355 y356 y357 y358 y359 p458 from (by rw [e459, ← e411, ← e408, ← e406, e394, e393, e392, e391, e390, e389, e388, e387, e386, e385]; have h := hS396; rw [S_Rea_floatText_c90.eq_1] at h; have c400x := c400; rw [e384] at c400x; rw [if_neg c400x] at h; rw [if_pos c402] at h; replace h := q_s2 h; with_reducible exact h))
            refine lv_lload_n hx hb d_10_4_173 rfl (lv_at hl 1 rfl) ?_
            refine lv_lor hx hb d_10_4_174 ?_
            obtain ⟨j478, e479⟩ := q_nm (j419 ||| j229 : Int64)
            refine q_tl (v := j478) e479 ?_
            refine q_put (ci := 8) (j := 1) (v := .long j478) (ty := .long) C0 V i_Rea o_Rea n_Rea rfl rfl hO349 (by decide) w_286 rfl rfl rfl rfl (Nat.le_of_ble_eq_true rfl) d_10_4_175 (fun H locs w480 hu481 hO349 V => ?_)
            replace hO349 : w480[38]? = (some (q 38, .inr (8, [.long y350, .long j478, .ref (q 1), .ref (q 9), .int y352, .int y353, .int y354, .int y355, .int y356, .int y357, .int y358, .long y359])) : Option (Nat × va_E)) := hO349
            have ob482 : q_F (0 ≤ y354.toInt) := (by have h := hS474; rw [S_Rea_floatText_c170.eq_1] at h; exact h.2.1)
            have ob483 : q_F (y354.toInt ≤ 1) := (by have h := hS474; rw [S_Rea_floatText_c170.eq_1] at h; replace h := q_s2 h; exact h.2.1)
            replace hI := n_p38 hI hu481 hO349 ⟨(by first | with_reducible exact q_fe ob482 | (have t1 : 0 ≤ y354.toInt := ob482; omega)), (by first | with_reducible exact q_fe ob483 | (have t1 : y354.toInt ≤ 1 := ob483; omega))⟩ ⟨(by have t1 : 0 ≤ lx305.toInt := i325; have t2 : lx305.toInt ≤ y358.toInt := b376; omega), (by have t1 : lx305.toInt ≤ 1 := i326; have t2 : y358.toInt ≤ lx305.toInt := b377; omega)⟩
            replace hO313 := (hu481 _ (by decide)).trans hO313
            replace hA314 := (hu481 _ (by decide)).trans hA314
            replace hO420 := (hu481 _ (by decide)).trans hO420
            replace hA424 := (hu481 _ (by decide)).trans hA424
            replace hO425 := (hu481 _ (by decide)).trans hO425
            replace hA429 := (hu481 _ (by decide)).trans hA429
            replace hO430 := (hu481 _ (by decide)).trans hO430
            replace hA434 := (hu481 _ (by decide)).trans hA434
            replace hO435 := (hu481 _ (by decide)).trans hO435
            replace hA439 := (hu481 _ (by decide)).trans hA439
            replace hF := q_us hF hu481 (by simp)
            refine lv_iconst (v := 1) hx hb d_10_4_178 (by decide) ?_
            exact q_reti C0 V (⟨hI, hF, y350, j478, y352, y353, y354, y355, y356, y357, y358, y359, lx307, lx308, lx309, y421, y422, f423, y426, y427, f428, y431, y432, f433, y436, y437, f438, hO349, hO313, hA314, hO420, hA424, hO425, hA429, hO430, hA434, hO435, hA439, (show 0 ≤ (1 : Int32).toInt from (by have z30 : (1 : Int32).toInt = 1 := rfl; omega)), (show (1 : Int32).toInt ≤ 1 from (by have z30 : (1 : Int32).toInt = 1 := rfl; omega)), (show 0 ≤ y358.toInt from (by have z30 : (1 : Int32).toInt = 1 := rfl; have t1 : 0 ≤ lx305.toInt := i325; have t2 : lx305.toInt ≤ y358.toInt := b376; omega)), (show y358.toInt ≤ 1 from (by have z30 : (1 : Int32).toInt = 1 := rfl; have t1 : lx305.toInt ≤ 1 := i326; have t2 : y358.toInt ≤ lx305.toInt := b377; omega)), (show 0 ≤ lx307.toInt from (by have z30 : (1 : Int32).toInt = 1 := rfl; have t1 : 0 ≤ lx307.toInt := i327; omega)), (show lx307.toInt ≤ 4100 from (by have z30 : (1 : Int32).toInt = 1 := rfl; have t1 : lx307.toInt ≤ 4100 := i328; omega)), (show 0 ≤ lx308.toInt from (by have z30 : (1 : Int32).toInt = 1 := rfl; have t1 : 0 ≤ lx308.toInt := i329; omega)), (show lx308.toInt ≤ 1 from (by have z30 : (1 : Int32).toInt = 1 := rfl; have t1 : lx308.toInt ≤ 0 := i330; omega)), (show 0 ≤ y421.toInt from (by have z30 : (1 : Int32).toInt = 1 := rfl; have t1 : 0 ≤ y421.toInt := b440; omega)), (show y421.toInt ≤ 220 from (by have z30 : (1 : Int32).toInt = 1 := rfl; have t1 : y421.toInt ≤ 220 := b441; omega)), (show 0 ≤ y422.toInt from (by have z30 : (1 : Int32).toInt = 1 := rfl; have t1 : 0 ≤ y422.toInt := b442; omega)), (show y422.toInt ≤ 1 from (by have z30 : (1 : Int32).toInt = 1 := rfl; have t1 : lx308.toInt ≤ 0 := i330; have t2 : y422.toInt ≤ lx308.toInt + 1 := b454; omega)), (show 0 ≤ y426.toInt from (by have z30 : (1 : Int32).toInt = 1 := rfl; have t1 : 0 ≤ y426.toInt := b443; omega)), (show y426.toInt ≤ 220 from (by have z30 : (1 : Int32).toInt = 1 := rfl; have t1 : y426.toInt ≤ 220 := b444; omega)), (show 0 ≤ y427.toInt from (by have z30 : (1 : Int32).toInt = 1 := rfl; have t1 : 0 ≤ y427.toInt := b445; omega)), (show y427.toInt ≤ 1 from (by have z30 : (1 : Int32).toInt = 1 := rfl; have t1 : y427.toInt ≤ 1 := b446; omega)), (show 0 ≤ y431.toInt from (by have z30 : (1 : Int32).toInt = 1 := rfl; have t1 : 0 ≤ y431.toInt := b447; omega)), (show y431.toInt ≤ 220 from (by have z30 : (1 : Int32).toInt = 1 := rfl; have t1 : y431.toInt ≤ 220 := b448; omega)), (show 0 ≤ y432.toInt from (by have z30 : (1 : Int32).toInt = 1 := rfl; have t1 : 0 ≤ y432.toInt := b449; omega)), (show y432.toInt ≤ 1 from (by have z30 : (1 : Int32).toInt = 1 := rfl; have t1 : 0 ≤ t9_1.toInt ∧ t9_1.toInt ≤ 1 := btt9_1; have t2 : y432.toInt ≤ t9_1.toInt := b455; omega)), (show 0 ≤ y436.toInt from (by have z30 : (1 : Int32).toInt = 1 := rfl; have t1 : 0 ≤ y436.toInt := b450; omega)), (show y436.toInt ≤ 220 from (by have z30 : (1 : Int32).toInt = 1 := rfl; have t1 : y436.toInt ≤ 220 := b451; omega)), (show 0 ≤ y437.toInt from (by have z30 : (1 : Int32).toInt = 1 := rfl; have t1 : 0 ≤ y437.toInt := b452; omega)), (show y437.toInt ≤ 1 from (by have z30 : (1 : Int32).toInt = 1 := rfl; have t1 : y437.toInt ≤ 1 := b453; omega)), (show t0_0.toInt ≤ y350.toInt from (by have z30 : (1 : Int32).toInt = 1 := rfl; have t1 : t0_0.toInt ≤ y62.toInt := b74; have t2 : y62.toInt ≤ y115.toInt := b125; have t3 : y115.toInt ≤ y166.toInt := b178; have t4 : y166.toInt ≤ y247.toInt := b259; have t5 : y247.toInt ≤ lx297.toInt := i331; have t6 : lx297.toInt ≤ y350.toInt := b362; omega)), (show y350.toInt ≤ t0_0.toInt from (by have z30 : (1 : Int32).toInt = 1 := rfl; have t1 : y62.toInt ≤ t0_0.toInt := b75; have t2 : y115.toInt ≤ y62.toInt := b126; have t3 : y166.toInt ≤ y115.toInt := b179; have t4 : y247.toInt ≤ y166.toInt := b260; have t5 : lx297.toInt ≤ y247.toInt := i332; have t6 : y350.toInt ≤ lx297.toInt := b363; omega)), (show y353.toInt ≤ t1_0.toInt from (by have z30 : (1 : Int32).toInt = 1 := rfl; have t1 : y65.toInt ≤ t1_0.toInt := b79; have t2 : y118.toInt ≤ y65.toInt := b130; have t3 : y169.toInt ≤ y118.toInt := b183; have t4 : y250.toInt ≤ y169.toInt := b264; have t5 : lx300.toInt ≤ y250.toInt := i336; have t6 : y353.toInt ≤ lx300.toInt := b367; omega)), (show lx308.toInt ≤ t3_1.toInt from (by have z30 : (1 : Int32).toInt = 1 := rfl; have t1 : 0 ≤ t3_1.toInt ∧ t3_1.toInt ≤ 1 := btt3_1; have t2 : lx308.toInt ≤ 0 := i330; omega)), (show y432.toInt ≤ t9_1.toInt from (by have z30 : (1 : Int32).toInt = 1 := rfl; have t1 : y432.toInt ≤ t9_1.toInt := b455; omega)), (show lx308.toInt ≤ (1 : Int32).toInt from (by have z30 : (1 : Int32).toInt = 1 := rfl; have t1 : lx308.toInt ≤ 0 := i330; omega)), (show ((1 : Int32), y350, j478, y352, y353, y354, y355, y356, y357, y358, y359, lx307, lx308, lx309, y421, y422, f423, y426, y427, f428, y431, y432, f433, y436, y437, f438) = (F_Rea_floatText A B C t0_0 t0_1 t0_2 t0_3 t0_4 t0_5 t0_6 t0_7 t0_8 t0_9 t1_0 t2_0 t3_0 t3_1 t4_0 t5_0 t5_1 t6_0 t7_0 t7_1 t8_0 t9_0 t9_1 t10_0 t11_0 t11_1 t12_0) from Eq.trans (by rw [← e479, e472, e471, e470, e469, e468, e467, e466, e465, e464, e463, e462, e461, e460, F_Rea_floatText_c170.eq_1]) hR473)⟩) d_10_4_179
          ·
            refine lv_aload_n hx hb d_10_4_103 rfl (lv_at hl 2 rfl) ?_
            refine lv_aload_n hx hb d_10_4_104 rfl (lv_at hl 3 rfl) ?_
            refine lv_aload_n hx hb d_10_4_105 rfl (lv_at hl 2 rfl) ?_
            refine q_get (ci := 8) (j := 3) (v := .ref (q 9)) C0 V i_Rea rfl rfl hO349 (by decide) w_289 rfl d_10_4_106 ?_
            have hO485 := n_o9 hI
            refine q_get (ci := 4) (j := 0) (v := .ref (q 10)) C0 V i_Mil rfl rfl hO485 (by decide) w_109 rfl d_10_4_109 ?_
            refine lv_aload_n hx hb d_10_4_112 rfl (lv_at hl 2 rfl) ?_
            refine q_get (ci := 8) (j := 11) (v := .long y359) C0 V i_Rea rfl rfl hO349 (by decide) w_297 rfl d_10_4_113 ?_
            refine q_ldc2 C0 rfl w_733 d_10_4_116 ?_
            refine lv_aload_n hx hb d_10_4_119 rfl (lv_at hl 2 rfl) ?_
            refine q_get (ci := 8) (j := 9) (v := .int y357) C0 V i_Rea rfl rfl hO349 (by decide) w_295 rfl d_10_4_120 ?_
            refine lv_aload_n hx hb d_10_4_123 rfl (lv_at hl 2 rfl) ?_
            refine q_get (ci := 8) (j := 7) (v := .int y355) C0 V i_Rea rfl rfl hO349 (by decide) w_293 rfl d_10_4_124 ?_
            refine lv_isub hx hb d_10_4_127 ?_
            obtain ⟨a486, e487⟩ := q_nm (y357 - y355 : Int32)
            refine q_ti (v := a486) e487 ?_
            refine lv_i2l hx hb d_10_4_128 rfl ?_
            obtain ⟨j488, e489⟩ := q_nm (a486.toInt64 : Int64)
            refine q_tl (v := j488) e489 ?_
            refine lv_lmul hx hb d_10_4_129 ?_
            obtain ⟨j491, e492⟩ := q_nm (4 * j488 : Int64)
            refine q_tl (v := j491) e492 ?_
            refine lv_ladd hx hb d_10_4_130 ?_
            obtain ⟨j494, e495⟩ := q_nm (y359 + j491 : Int64)
            refine q_tl (v := j494) e495 ?_
            refine lv_aload_n hx hb d_10_4_131 rfl (lv_at hl 2 rfl) ?_
            refine q_get (ci := 8) (j := 10) (v := .int y358) C0 V i_Rea rfl rfl hO349 (by decide) w_296 rfl d_10_4_132 ?_
            obtain ⟨y497, y498, y499, hO496⟩ := n_flO hI hB2
            refine q_gol V (q_runV (As := [.ref (q 10), .long j494, .int y358]) (rest := [.ref (q 38)]) (d := 4) (mc := 0) (ms := 0) (ci := 6) C0 V rfl LV_Rea_131 (X_Flo_nearest l D g q u346 k2 A B C hB2 10 220 (n_b10 g q) (by decide) j494 y358 hI lx307 lx308 hO313 lx309 hA314 ⟨(by have y0 : (220 : Int32).toInt = 220 := rfl; have t1 : 0 ≤ lx305.toInt := i325; have t2 : lx305.toInt ≤ y358.toInt := b376; omega), (by have y0 : (220 : Int32).toInt = 220 := rfl; have t1 : lx305.toInt ≤ 1 := i326; have t2 : y358.toInt ≤ lx305.toInt := b377; omega)⟩ _) rfl rfl hO496 rfl hl.1 rfl (Nat.le_of_ble_eq_true rfl) ⟨by decide, by decide⟩ ⟨Nat.le_of_ble_eq_true rfl, Nat.le_of_ble_eq_true rfl⟩ d_10_4_135) (fun j502 u500 H locs hp501 V => ?_)
            obtain ⟨rfl, hE503⟩ := hp501
            have e504 : j502 = (F_Flo_nearest A B C (220 : Int32) j494 y358 lx307 lx308 lx309) := hE503
            refine lv_lload_n hx hb d_10_4_138 rfl (lv_at hl 1 rfl) ?_
            refine lv_lor hx hb d_10_4_139 ?_
            obtain ⟨j505, e506⟩ := q_nm (j502 ||| j229 : Int64)
            refine q_tl (v := j505) e506 ?_
            refine q_put (ci := 8) (j := 1) (v := .long j505) (ty := .long) C0 V i_Rea o_Rea n_Rea rfl rfl hO349 (by decide) w_286 rfl rfl rfl rfl (Nat.le_of_ble_eq_true rfl) d_10_4_140 (fun H locs w507 hu508 hO349 V => ?_)
            replace hO349 : w507[38]? = (some (q 38, .inr (8, [.long y350, .long j505, .ref (q 1), .ref (q 9), .int y352, .int y353, .int y354, .int y355, .int y356, .int y357, .int y358, .long y359])) : Option (Nat × va_E)) := hO349
            have ob509 : q_F (0 ≤ y354.toInt) := (by rw [e389]; have h := hS396; rw [S_Rea_floatText_c90.eq_1] at h; have c400x := c400; rw [e384] at c400x; rw [if_neg c400x] at h; rw [if_neg c402] at h; exact h.2.1)
            have ob510 : q_F (y354.toInt ≤ 1) := (by rw [e389]; have h := hS396; rw [S_Rea_floatText_c90.eq_1] at h; have c400x := c400; rw [e384] at c400x; rw [if_neg c400x] at h; rw [if_neg c402] at h; replace h := q_s2 h; exact h.2.1)
            replace hI := n_p38 hI hu508 hO349 ⟨(by first | with_reducible exact q_fe ob509 | (have t1 : 0 ≤ y354.toInt := ob509; omega)), (by first | with_reducible exact q_fe ob510 | (have t1 : y354.toInt ≤ 1 := ob510; omega))⟩ ⟨(by have t1 : 0 ≤ lx305.toInt := i325; have t2 : lx305.toInt ≤ y358.toInt := b376; omega), (by have t1 : lx305.toInt ≤ 1 := i326; have t2 : y358.toInt ≤ lx305.toInt := b377; omega)⟩
            replace hO313 := (hu508 _ (by decide)).trans hO313
            replace hA314 := (hu508 _ (by decide)).trans hA314
            replace hO315 := (hu508 _ (by decide)).trans hO315
            replace hA316 := (hu508 _ (by decide)).trans hA316
            replace hO317 := (hu508 _ (by decide)).trans hO317
            replace hA318 := (hu508 _ (by decide)).trans hA318
            replace hO319 := (hu508 _ (by decide)).trans hO319
            replace hA320 := (hu508 _ (by decide)).trans hA320
            replace hO321 := (hu508 _ (by decide)).trans hO321
            replace hA322 := (hu508 _ (by decide)).trans hA322
            replace hF := q_us hF hu508 (by simp)
            refine lv_goto (tgt := 178) hx hb d_10_4_143 (by decide) ?_
            refine lv_iconst (v := 1) hx hb d_10_4_178 (by decide) ?_
            exact q_reti C0 V (⟨hI, hF, y350, j505, y352, y353, y354, y355, y356, y357, y358, y359, lx307, lx308, lx309, t5_0, t5_1, t6_0, t7_0, t7_1, t8_0, t9_0, t9_1, t10_0, t11_0, t11_1, t12_0, hO349, hO313, hA314, hO315, hA316, hO317, hA318, hO319, hA320, hO321, hA322, (show 0 ≤ (1 : Int32).toInt from (by have z30 : (1 : Int32).toInt = 1 := rfl; omega)), (show (1 : Int32).toInt ≤ 1 from (by have z30 : (1 : Int32).toInt = 1 := rfl; omega)), (show 0 ≤ y358.toInt from (by have z30 : (1 : Int32).toInt = 1 := rfl; have t1 : 0 ≤ lx305.toInt := i325; have t2 : lx305.toInt ≤ y358.toInt := b376; omega)), (show y358.toInt ≤ 1 from (by have z30 : (1 : Int32).toInt = 1 := rfl; have t1 : lx305.toInt ≤ 1 := i326; have t2 : y358.toInt ≤ lx305.toInt := b377; omega)), (show 0 ≤ lx307.toInt from (by have z30 : (1 : Int32).toInt = 1 := rfl; have t1 : 0 ≤ lx307.toInt := i327; omega)), (show lx307.toInt ≤ 4100 from (by have z30 : (1 : Int32).toInt = 1 := rfl; have t1 : lx307.toInt ≤ 4100 := i328; omega)), (show 0 ≤ lx308.toInt from (by have z30 : (1 : Int32).toInt = 1 := rfl; have t1 : 0 ≤ lx308.toInt := i329; omega)), (show lx308.toInt ≤ 1 from (by have z30 : (1 : Int32).toInt = 1 := rfl; have t1 : lx308.toInt ≤ 0 := i330; omega)), (show 0 ≤ t5_0.toInt from (by have z30 : (1 : Int32).toInt = 1 := rfl; have t1 : 0 ≤ t5_0.toInt ∧ t5_0.toInt ≤ 220 := btt5_0; omega)), (show t5_0.toInt ≤ 220 from (by have z30 : (1 : Int32).toInt = 1 := rfl; have t1 : 0 ≤ t5_0.toInt ∧ t5_0.toInt ≤ 220 := btt5_0; omega)), (show 0 ≤ t5_1.toInt from (by have z30 : (1 : Int32).toInt = 1 := rfl; have t1 : 0 ≤ t5_1.toInt ∧ t5_1.toInt ≤ 1 := btt5_1; omega)), (show t5_1.toInt ≤ 1 from (by have z30 : (1 : Int32).toInt = 1 := rfl; have t1 : 0 ≤ t5_1.toInt ∧ t5_1.toInt ≤ 1 := btt5_1; omega)), (show 0 ≤ t7_0.toInt from (by have z30 : (1 : Int32).toInt = 1 := rfl; have t1 : 0 ≤ t7_0.toInt ∧ t7_0.toInt ≤ 220 := btt7_0; omega)), (show t7_0.toInt ≤ 220 from (by have z30 : (1 : Int32).toInt = 1 := rfl; have t1 : 0 ≤ t7_0.toInt ∧ t7_0.toInt ≤ 220 := btt7_0; omega)), (show 0 ≤ t7_1.toInt from (by have z30 : (1 : Int32).toInt = 1 := rfl; have t1 : 0 ≤ t7_1.toInt ∧ t7_1.toInt ≤ 1 := btt7_1; omega)), (show t7_1.toInt ≤ 1 from (by have z30 : (1 : Int32).toInt = 1 := rfl; have t1 : 0 ≤ t7_1.toInt ∧ t7_1.toInt ≤ 1 := btt7_1; omega)), (show 0 ≤ t9_0.toInt from (by have z30 : (1 : Int32).toInt = 1 := rfl; have t1 : 0 ≤ t9_0.toInt ∧ t9_0.toInt ≤ 220 := btt9_0; omega)), (show t9_0.toInt ≤ 220 from (by have z30 : (1 : Int32).toInt = 1 := rfl; have t1 : 0 ≤ t9_0.toInt ∧ t9_0.toInt ≤ 220 := btt9_0; omega)), (show 0 ≤ t9_1.toInt from (by have z30 : (1 : Int32).toInt = 1 := rfl; have t1 : 0 ≤ t9_1.toInt ∧ t9_1.toInt ≤ 1 := btt9_1; omega)), (show t9_1.toInt ≤ 1 from (by have z30 : (1 : Int32).toInt = 1 := rfl; have t1 : 0 ≤ t9_1.toInt ∧ t9_1.toInt ≤ 1 := btt9_1; omega)), (show 0 ≤ t11_0.toInt from (by have z30 : (1 : Int32).toInt = 1 := rfl; have t1 : 0 ≤ t11_0.toInt ∧ t11_0.toInt ≤ 220 := btt11_0; omega)), (show t11_0.toInt ≤ 220 from (by have z30 : (1 : Int32).toInt = 1 := rfl; have t1 : 0 ≤ t11_0.toInt ∧ t11_0.toInt ≤ 220 := btt11_0; omega)), (show 0 ≤ t11_1.toInt from (by have z30 : (1 : Int32).toInt = 1 := rfl; have t1 : 0 ≤ t11_1.toInt ∧ t11_1.toInt ≤ 1 := btt11_1; omega)), (show t11_1.toInt ≤ 1 from (by have z30 : (1 : Int32).toInt = 1 := rfl; have t1 : 0 ≤ t11_1.toInt ∧ t11_1.toInt ≤ 1 := btt11_1; omega)), (show t0_0.toInt ≤ y350.toInt from (by have z30 : (1 : Int32).toInt = 1 := rfl; have t1 : t0_0.toInt ≤ y62.toInt := b74; have t2 : y62.toInt ≤ y115.toInt := b125; have t3 : y115.toInt ≤ y166.toInt := b178; have t4 : y166.toInt ≤ y247.toInt := b259; have t5 : y247.toInt ≤ lx297.toInt := i331; have t6 : lx297.toInt ≤ y350.toInt := b362; omega)), (show y350.toInt ≤ t0_0.toInt from (by have z30 : (1 : Int32).toInt = 1 := rfl; have t1 : y62.toInt ≤ t0_0.toInt := b75; have t2 : y115.toInt ≤ y62.toInt := b126; have t3 : y166.toInt ≤ y115.toInt := b179; have t4 : y247.toInt ≤ y166.toInt := b260; have t5 : lx297.toInt ≤ y247.toInt := i332; have t6 : y350.toInt ≤ lx297.toInt := b363; omega)), (show y353.toInt ≤ t1_0.toInt from (by have z30 : (1 : Int32).toInt = 1 := rfl; have t1 : y65.toInt ≤ t1_0.toInt := b79; have t2 : y118.toInt ≤ y65.toInt := b130; have t3 : y169.toInt ≤ y118.toInt := b183; have t4 : y250.toInt ≤ y169.toInt := b264; have t5 : lx300.toInt ≤ y250.toInt := i336; have t6 : y353.toInt ≤ lx300.toInt := b367; omega)), (show lx308.toInt ≤ t3_1.toInt from (by have z30 : (1 : Int32).toInt = 1 := rfl; have t1 : 0 ≤ t3_1.toInt ∧ t3_1.toInt ≤ 1 := btt3_1; have t2 : lx308.toInt ≤ 0 := i330; omega)), (show t9_1.toInt ≤ t9_1.toInt from (by have z30 : (1 : Int32).toInt = 1 := rfl; omega)), (show lx308.toInt ≤ (1 : Int32).toInt from (by have z30 : (1 : Int32).toInt = 1 := rfl; have t1 : lx308.toInt ≤ 0 := i330; omega)), (show ((1 : Int32), y350, j505, y352, y353, y354, y355, y356, y357, y358, y359, lx307, lx308, lx309, t5_0, t5_1, t6_0, t7_0, t7_1, t8_0, t9_0, t9_1, t10_0, t11_0, t11_1, t12_0) = (F_Rea_floatText A B C t0_0 t0_1 t0_2 t0_3 t0_4 t0_5 t0_6 t0_7 t0_8 t0_9 t1_0 t2_0 t3_0 t3_1 t4_0 t5_0 t5_1 t6_0 t7_0 t7_1 t8_0 t9_0 t9_1 t10_0 t11_0 t11_1 t12_0) from Eq.trans (by have c400x := c400; rw [e384] at c400x; rw [← e506, e504, ← e495, ← e492, ← e489, ← e487, e394, e393, e392, e391, e390, e389, e388, e387, e385, F_Rea_floatText_c90.eq_1, if_neg c400x, if_neg c402]) hR395)⟩) d_10_4_179
        ·
          refine lv_iconst (v := 0) hx hb d_10_4_96 (by decide) ?_
          exact q_reti C0 V (⟨hI, hF, y350, y351, y352, y353, y354, y355, y356, y357, y358, y359, lx307, lx308, lx309, t5_0, t5_1, t6_0, t7_0, t7_1, t8_0, t9_0, t9_1, t10_0, t11_0, t11_1, t12_0, hO349, hO313, hA314, hO315, hA316, hO317, hA318, hO319, hA320, hO321, hA322, (show 0 ≤ (0 : Int32).toInt from (by have z30 : (0 : Int32).toInt = 0 := rfl; omega)), (show (0 : Int32).toInt ≤ 1 from (by have z30 : (0 : Int32).toInt = 0 := rfl; omega)), (show 0 ≤ y358.toInt from (by have z30 : (0 : Int32).toInt = 0 := rfl; have t1 : 0 ≤ lx305.toInt := i325; have t2 : lx305.toInt ≤ y358.toInt := b376; omega)), (show y358.toInt ≤ 1 from (by have z30 : (0 : Int32).toInt = 0 := rfl; have t1 : lx305.toInt ≤ 1 := i326; have t2 : y358.toInt ≤ lx305.toInt := b377; omega)), (show 0 ≤ lx307.toInt from (by have z30 : (0 : Int32).toInt = 0 := rfl; have t1 : 0 ≤ lx307.toInt := i327; omega)), (show lx307.toInt ≤ 4100 from (by have z30 : (0 : Int32).toInt = 0 := rfl; have t1 : lx307.toInt ≤ 4100 := i328; omega)), (show 0 ≤ lx308.toInt from (by have z30 : (0 : Int32).toInt = 0 := rfl; have t1 : 0 ≤ lx308.toInt := i329; omega)), (show lx308.toInt ≤ 1 from (by have z30 : (0 : Int32).toInt = 0 := rfl; have t1 : lx308.toInt ≤ 0 := i330; omega)), (show 0 ≤ t5_0.toInt from (by have z30 : (0 : Int32).toInt = 0 := rfl; have t1 : 0 ≤ t5_0.toInt ∧ t5_0.toInt ≤ 220 := btt5_0; omega)), (show t5_0.toInt ≤ 220 from (by have z30 : (0 : Int32).toInt = 0 := rfl; have t1 : 0 ≤ t5_0.toInt ∧ t5_0.toInt ≤ 220 := btt5_0; omega)), (show 0 ≤ t5_1.toInt from (by have z30 : (0 : Int32).toInt = 0 := rfl; have t1 : 0 ≤ t5_1.toInt ∧ t5_1.toInt ≤ 1 := btt5_1; omega)), (show t5_1.toInt ≤ 1 from (by have z30 : (0 : Int32).toInt = 0 := rfl; have t1 : 0 ≤ t5_1.toInt ∧ t5_1.toInt ≤ 1 := btt5_1; omega)), (show 0 ≤ t7_0.toInt from (by have z30 : (0 : Int32).toInt = 0 := rfl; have t1 : 0 ≤ t7_0.toInt ∧ t7_0.toInt ≤ 220 := btt7_0; omega)), (show t7_0.toInt ≤ 220 from (by have z30 : (0 : Int32).toInt = 0 := rfl; have t1 : 0 ≤ t7_0.toInt ∧ t7_0.toInt ≤ 220 := btt7_0; omega)), (show 0 ≤ t7_1.toInt from (by have z30 : (0 : Int32).toInt = 0 := rfl; have t1 : 0 ≤ t7_1.toInt ∧ t7_1.toInt ≤ 1 := btt7_1; omega)), (show t7_1.toInt ≤ 1 from (by have z30 : (0 : Int32).toInt = 0 := rfl; have t1 : 0 ≤ t7_1.toInt ∧ t7_1.toInt ≤ 1 := btt7_1; omega)), (show 0 ≤ t9_0.toInt from (by have z30 : (0 : Int32).toInt = 0 := rfl; have t1 : 0 ≤ t9_0.toInt ∧ t9_0.toInt ≤ 220 := btt9_0; omega)), (show t9_0.toInt ≤ 220 from (by have z30 : (0 : Int32).toInt = 0 := rfl; have t1 : 0 ≤ t9_0.toInt ∧ t9_0.toInt ≤ 220 := btt9_0; omega)), (show 0 ≤ t9_1.toInt from (by have z30 : (0 : Int32).toInt = 0 := rfl; have t1 : 0 ≤ t9_1.toInt ∧ t9_1.toInt ≤ 1 := btt9_1; omega)), (show t9_1.toInt ≤ 1 from (by have z30 : (0 : Int32).toInt = 0 := rfl; have t1 : 0 ≤ t9_1.toInt ∧ t9_1.toInt ≤ 1 := btt9_1; omega)), (show 0 ≤ t11_0.toInt from (by have z30 : (0 : Int32).toInt = 0 := rfl; have t1 : 0 ≤ t11_0.toInt ∧ t11_0.toInt ≤ 220 := btt11_0; omega)), (show t11_0.toInt ≤ 220 from (by have z30 : (0 : Int32).toInt = 0 := rfl; have t1 : 0 ≤ t11_0.toInt ∧ t11_0.toInt ≤ 220 := btt11_0; omega)), (show 0 ≤ t11_1.toInt from (by have z30 : (0 : Int32).toInt = 0 := rfl; have t1 : 0 ≤ t11_1.toInt ∧ t11_1.toInt ≤ 1 := btt11_1; omega)), (show t11_1.toInt ≤ 1 from (by have z30 : (0 : Int32).toInt = 0 := rfl; have t1 : 0 ≤ t11_1.toInt ∧ t11_1.toInt ≤ 1 := btt11_1; omega)), (show t0_0.toInt ≤ y350.toInt from (by have z30 : (0 : Int32).toInt = 0 := rfl; have t1 : t0_0.toInt ≤ y62.toInt := b74; have t2 : y62.toInt ≤ y115.toInt := b125; have t3 : y115.toInt ≤ y166.toInt := b178; have t4 : y166.toInt ≤ y247.toInt := b259; have t5 : y247.toInt ≤ lx297.toInt := i331; have t6 : lx297.toInt ≤ y350.toInt := b362; omega)), (show y350.toInt ≤ t0_0.toInt from (by have z30 : (0 : Int32).toInt = 0 := rfl; have t1 : y62.toInt ≤ t0_0.toInt := b75; have t2 : y115.toInt ≤ y62.toInt := b126; have t3 : y166.toInt ≤ y115.toInt := b179; have t4 : y247.toInt ≤ y166.toInt := b260; have t5 : lx297.toInt ≤ y247.toInt := i332; have t6 : y350.toInt ≤ lx297.toInt := b363; omega)), (show y353.toInt ≤ t1_0.toInt from (by have z30 : (0 : Int32).toInt = 0 := rfl; have t1 : y65.toInt ≤ t1_0.toInt := b79; have t2 : y118.toInt ≤ y65.toInt := b130; have t3 : y169.toInt ≤ y118.toInt := b183; have t4 : y250.toInt ≤ y169.toInt := b264; have t5 : lx300.toInt ≤ y250.toInt := i336; have t6 : y353.toInt ≤ lx300.toInt := b367; omega)), (show lx308.toInt ≤ t3_1.toInt from (by have z30 : (0 : Int32).toInt = 0 := rfl; have t1 : 0 ≤ t3_1.toInt ∧ t3_1.toInt ≤ 1 := btt3_1; have t2 : lx308.toInt ≤ 0 := i330; omega)), (show t9_1.toInt ≤ t9_1.toInt from (by have z30 : (0 : Int32).toInt = 0 := rfl; omega)), (show lx308.toInt ≤ (0 : Int32).toInt from (by have z30 : (0 : Int32).toInt = 0 := rfl; have t1 : lx308.toInt ≤ 0 := i330; omega)), (show ((0 : Int32), y350, y351, y352, y353, y354, y355, y356, y357, y358, y359, lx307, lx308, lx309, t5_0, t5_1, t6_0, t7_0, t7_1, t8_0, t9_0, t9_1, t10_0, t11_0, t11_1, t12_0) = (F_Rea_floatText A B C t0_0 t0_1 t0_2 t0_3 t0_4 t0_5 t0_6 t0_7 t0_8 t0_9 t1_0 t2_0 t3_0 t3_1 t4_0 t5_0 t5_1 t6_0 t7_0 t7_1 t8_0 t9_0 t9_1 t10_0 t11_0 t11_1 t12_0) from Eq.trans (by have c400x := c400; rw [e384] at c400x; rw [e394, e393, e392, e391, e390, e389, e388, e387, e386, e385, F_Rea_floatText_c90.eq_1, if_pos c400x]) hR395)⟩) d_10_4_97
      ·
        intro J323
        refine lv_if_eq (tgt := 82) hx hb d_10_4_69 (by decide) (fun c512 => ?_) (fun c512 => ?_)
        ·
          refine lv_aload_n hx hb d_10_4_82 rfl (lv_at hl 2 rfl) ?_
          have ob514 : True ∧ S_Rea_takeDecimal y247 y248 y249 y250 y251 y252 y253 y254 y255 y256 t1_0 t2_0 t3_0 t3_1 t4_0 := (by rw [e291, e290, e289, e288, e287, e286, e285, e284, e283, e282]; have h := hS293; rw [S_Rea_floatText_c62.eq_1] at h; have c512x := c512; rw [e281] at c512x; rw [if_pos c512x] at h; with_reducible exact h.2.1)
          refine q_goi V (q_runV (As := []) (rest := []) (d := 5) (mc := 0) (ms := 0) (ci := 8) C0 V rfl LV_Rea_120 (X_Rea_takeDecimal l D g q u243   hI y247 y248 y249 y250 y251 y252 y253 y254 y255 y256 hO246 t1_0 hT1 t2_0 hT2 t3_0 t3_1 hT3 t4_0 hT4 ob514 _) rfl rfl hO246 rfl hl.1 rfl (Nat.le_of_ble_eq_true rfl) ⟨by decide, by decide⟩ ⟨Nat.le_of_ble_eq_true rfl, Nat.le_of_ble_eq_true rfl⟩ d_10_4_83) (fun a517 u515 H locs hp516 V => ?_)
          obtain ⟨hI, hZ9⟩ := hp516
          obtain ⟨hu552, hZ9⟩ := hZ9
          obtain ⟨y519, hZ9⟩ := hZ9
          obtain ⟨y520, hZ9⟩ := hZ9
          obtain ⟨y521, hZ9⟩ := hZ9
          obtain ⟨y522, hZ9⟩ := hZ9
          obtain ⟨y523, hZ9⟩ := hZ9
          obtain ⟨y524, hZ9⟩ := hZ9
          obtain ⟨y525, hZ9⟩ := hZ9
          obtain ⟨y526, hZ9⟩ := hZ9
          obtain ⟨y527, hZ9⟩ := hZ9
          obtain ⟨y528, hZ9⟩ := hZ9
          obtain ⟨y530, hZ9⟩ := hZ9
          obtain ⟨y531, hZ9⟩ := hZ9
          obtain ⟨f532, hZ9⟩ := hZ9
          obtain ⟨hO518, hZ9⟩ := hZ9
          obtain ⟨hO529, hZ9⟩ := hZ9
          obtain ⟨hA533, hZ9⟩ := hZ9
          obtain ⟨b534, hZ9⟩ := hZ9
          obtain ⟨b535, hZ9⟩ := hZ9
          obtain ⟨b536, hZ9⟩ := hZ9
          obtain ⟨b537, hZ9⟩ := hZ9
          obtain ⟨b538, hZ9⟩ := hZ9
          obtain ⟨b539, hZ9⟩ := hZ9
          obtain ⟨b540, hZ9⟩ := hZ9
          obtain ⟨b541, hZ9⟩ := hZ9
          obtain ⟨b542, hZ9⟩ := hZ9
          obtain ⟨b543, hZ9⟩ := hZ9
          replace hZ9 := hZ9.2.2
          obtain ⟨b546, hZ9⟩ := hZ9
          obtain ⟨b547, hZ9⟩ := hZ9
          obtain ⟨b548, hZ9⟩ := hZ9
          obtain ⟨b549, hZ9⟩ := hZ9
          obtain ⟨b550, hE551⟩ := hZ9
          replace hO518 : u515[38]? = (some (q 38, .inr (8, [.long y519, .long y520, .ref (q 1), .ref (q 9), .int y521, .int y522, .int y523, .int y524, .int y525, .int y526, .int y527, .long y528])) : Option (Nat × va_E)) := hO518
          replace hO529 : u515[10]? = (some (q 10, .inr (2, [.ref (q 11), .int y530, .int y531])) : Option (Nat × va_E)) := hO529
          replace hA533 : u515[11]? = (some (q 11, .inl (g 0, (220 : Int32).toNatClampNeg, .inl f532)) : Option (Nat × va_E)) := hA533
          obtain ⟨p553, e554⟩ : ∃ z, z = (F_Rea_takeDecimal y247 y248 y249 y250 y251 y252 y253 y254 y255 y256 t1_0 t2_0 t3_0 t3_1 t4_0) := ⟨_, rfl⟩
          have e555 : a517 = p553.1 := congrArg (fun z => z.1) (hE551.trans e554.symm)
          have e556 : y519 = p553.2.1 := congrArg (fun z => z.2.1) (hE551.trans e554.symm)
          have e557 : y520 = p553.2.2.1 := congrArg (fun z => z.2.2.1) (hE551.trans e554.symm)
          have e558 : y521 = p553.2.2.2.1 := congrArg (fun z => z.2.2.2.1) (hE551.trans e554.symm)
          have e559 : y522 = p553.2.2.2.2.1 := congrArg (fun z => z.2.2.2.2.1) (hE551.trans e554.symm)
          have e560 : y523 = p553.2.2.2.2.2.1 := congrArg (fun z => z.2.2.2.2.2.1) (hE551.trans e554.symm)
          have e561 : y524 = p553.2.2.2.2.2.2.1 := congrArg (fun z => z.2.2.2.2.2.2.1) (hE551.trans e554.symm)
          have e562 : y525 = p553.2.2.2.2.2.2.2.1 := congrArg (fun z => z.2.2.2.2.2.2.2.1) (hE551.trans e554.symm)
          have e563 : y526 = p553.2.2.2.2.2.2.2.2.1 := congrArg (fun z => z.2.2.2.2.2.2.2.2.1) (hE551.trans e554.symm)
          have e564 : y527 = p553.2.2.2.2.2.2.2.2.2.1 := congrArg (fun z => z.2.2.2.2.2.2.2.2.2.1) (hE551.trans e554.symm)
          have e565 : y528 = p553.2.2.2.2.2.2.2.2.2.2.1 := congrArg (fun z => z.2.2.2.2.2.2.2.2.2.2.1) (hE551.trans e554.symm)
          have e566 : y530 = p553.2.2.2.2.2.2.2.2.2.2.2.1 := congrArg (fun z => z.2.2.2.2.2.2.2.2.2.2.2.1) (hE551.trans e554.symm)
          have e567 : y531 = p553.2.2.2.2.2.2.2.2.2.2.2.2.1 := congrArg (fun z => z.2.2.2.2.2.2.2.2.2.2.2.2.1) (hE551.trans e554.symm)
          have e568 : f532 = p553.2.2.2.2.2.2.2.2.2.2.2.2.2 := congrArg (fun z => z.2.2.2.2.2.2.2.2.2.2.2.2.2) (hE551.trans e554.symm)
          replace b534 : q_F (0 ≤ y531.toInt) := b534
          replace b535 : q_F (y531.toInt ≤ 0) := b535
          replace b536 : q_F (y247.toInt ≤ y519.toInt) := b536
          replace b537 : q_F (y519.toInt ≤ y247.toInt) := b537
          replace b538 : q_F (y248.toInt ≤ y520.toInt) := b538
          replace b539 : q_F (y520.toInt ≤ y248.toInt) := b539
          replace b540 : q_F (y250.toInt ≤ y522.toInt) := b540
          replace b541 : q_F (y522.toInt ≤ y250.toInt) := b541
          replace b542 : q_F (y251.toInt ≤ y523.toInt) := b542
          replace b543 : q_F (y523.toInt ≤ y251.toInt) := b543
          replace b546 : q_F (y531.toInt ≤ y525.toInt) := b546
          replace b547 : q_F (y531.toInt ≤ y527.toInt) := b547
          replace b548 : q_F (y527.toInt ≤ y531.toInt + 1) := b548
          replace b549 : q_F (y531.toInt ≤ y530.toInt) := b549
          replace b550 : q_F (y530.toInt ≤ y531.toInt + 4100) := b550
          replace hT1 := (hu552 _ (by decide)).trans hT1
          replace hT2 := (hu552 _ (by decide)).trans hT2
          replace hT5 := (hu552 _ (by decide)).trans hT5
          replace hT6 := (hu552 _ (by decide)).trans hT6
          replace hT7 := (hu552 _ (by decide)).trans hT7
          replace hT8 := (hu552 _ (by decide)).trans hT8
          replace hT9 := (hu552 _ (by decide)).trans hT9
          replace hT10 := (hu552 _ (by decide)).trans hT10
          replace hT11 := (hu552 _ (by decide)).trans hT11
          replace hT12 := (hu552 _ (by decide)).trans hT12
          replace hF := q_uc hF hu552 (by simp)
          have hR569 := (show F_Rea_floatText_c83 A B C t0_0 t0_1 t0_2 t0_3 t0_4 t0_5 t0_6 t0_7 t0_8 t0_9 t1_0 t2_0 t3_0 t3_1 t4_0 t5_0 t5_1 t6_0 t7_0 t7_1 t8_0 t9_0 t9_1 t10_0 t11_0 t11_1 t12_0 p94 p145 p196 j229 p279 a245 p553 = (F_Rea_floatText A B C t0_0 t0_1 t0_2 t0_3 t0_4 t0_5 t0_6 t0_7 t0_8 t0_9 t1_0 t2_0 t3_0 t3_1 t4_0 t5_0 t5_1 t6_0 t7_0 t7_1 t8_0 t9_0 t9_1 t10_0 t11_0 t11_1 t12_0) from Eq.trans (by have c512x := c512; rw [e281] at c512x; rw [e554, e291, e290, e289, e288, e287, e286, e285, e284, e283, e282, e281, F_Rea_floatText_c62.eq_1, if_pos c512x]) hR292)
          have hS570 := (show True ∧ S_Rea_floatText_c83 A B C t0_0 t0_1 t0_2 t0_3 t0_4 t0_5 t0_6 t0_7 t0_8 t0_9 t1_0 t2_0 t3_0 t3_1 t4_0 t5_0 t5_1 t6_0 t7_0 t7_1 t8_0 t9_0 t9_1 t10_0 t11_0 t11_1 t12_0 p94 p145 p196 j229 p279 a245 p553 from (by rw [e554, e291, e290, e289, e288, e287, e286, e285, e284, e283, e282, e281]; have h := hS293; rw [S_Rea_floatText_c62.eq_1] at h; have c512x := c512; rw [e281] at c512x; rw [if_pos c512x] at h; replace h := q_s2 h; with_reducible exact h))
          refine lv_if_eq (tgt := 96) hx hb d_10_4_86 (by decide) (fun c574 => ?_) (fun c574 => ?_)
          ·
            refine lv_iconst (v := 0) hx hb d_10_4_96 (by decide) ?_
            exact q_reti C0 V (⟨hI, hF, y519, y520, y521, y522, y523, y524, y525, y526, y527, y528, y530, y531, f532, t5_0, t5_1, t6_0, t7_0, t7_1, t8_0, t9_0, t9_1, t10_0, t11_0, t11_1, t12_0, hO518, hO529, hA533, hT5, hT6, hT7, hT8, hT9, hT10, hT11, hT12, (show 0 ≤ (0 : Int32).toInt from (by have z30 : (0 : Int32).toInt = 0 := rfl; omega)), (show (0 : Int32).toInt ≤ 1 from (by have z30 : (0 : Int32).toInt = 0 := rfl; omega)), (show 0 ≤ y527.toInt from (by have z30 : (0 : Int32).toInt = 0 := rfl; have t1 : 0 ≤ y531.toInt := b534; have t2 : y531.toInt ≤ y527.toInt := b547; omega)), (show y527.toInt ≤ 1 from (by have z30 : (0 : Int32).toInt = 0 := rfl; have t1 : y531.toInt ≤ 0 := b535; have t2 : y527.toInt ≤ y531.toInt + 1 := b548; omega)), (show 0 ≤ y530.toInt from (by have z30 : (0 : Int32).toInt = 0 := rfl; have t1 : 0 ≤ y531.toInt := b534; have t2 : y531.toInt ≤ y530.toInt := b549; omega)), (show y530.toInt ≤ 4100 from (by have z30 : (0 : Int32).toInt = 0 := rfl; have t1 : y531.toInt ≤ 0 := b535; have t2 : y530.toInt ≤ y531.toInt + 4100 := b550; omega)), (show 0 ≤ y531.toInt from (by have z30 : (0 : Int32).toInt = 0 := rfl; have t1 : 0 ≤ y531.toInt := b534; omega)), (show y531.toInt ≤ 1 from (by have z30 : (0 : Int32).toInt = 0 := rfl; have t1 : y531.toInt ≤ 0 := b535; omega)), (show 0 ≤ t5_0.toInt from (by have z30 : (0 : Int32).toInt = 0 := rfl; have t1 : 0 ≤ t5_0.toInt ∧ t5_0.toInt ≤ 220 := btt5_0; omega)), (show t5_0.toInt ≤ 220 from (by have z30 : (0 : Int32).toInt = 0 := rfl; have t1 : 0 ≤ t5_0.toInt ∧ t5_0.toInt ≤ 220 := btt5_0; omega)), (show 0 ≤ t5_1.toInt from (by have z30 : (0 : Int32).toInt = 0 := rfl; have t1 : 0 ≤ t5_1.toInt ∧ t5_1.toInt ≤ 1 := btt5_1; omega)), (show t5_1.toInt ≤ 1 from (by have z30 : (0 : Int32).toInt = 0 := rfl; have t1 : 0 ≤ t5_1.toInt ∧ t5_1.toInt ≤ 1 := btt5_1; omega)), (show 0 ≤ t7_0.toInt from (by have z30 : (0 : Int32).toInt = 0 := rfl; have t1 : 0 ≤ t7_0.toInt ∧ t7_0.toInt ≤ 220 := btt7_0; omega)), (show t7_0.toInt ≤ 220 from (by have z30 : (0 : Int32).toInt = 0 := rfl; have t1 : 0 ≤ t7_0.toInt ∧ t7_0.toInt ≤ 220 := btt7_0; omega)), (show 0 ≤ t7_1.toInt from (by have z30 : (0 : Int32).toInt = 0 := rfl; have t1 : 0 ≤ t7_1.toInt ∧ t7_1.toInt ≤ 1 := btt7_1; omega)), (show t7_1.toInt ≤ 1 from (by have z30 : (0 : Int32).toInt = 0 := rfl; have t1 : 0 ≤ t7_1.toInt ∧ t7_1.toInt ≤ 1 := btt7_1; omega)), (show 0 ≤ t9_0.toInt from (by have z30 : (0 : Int32).toInt = 0 := rfl; have t1 : 0 ≤ t9_0.toInt ∧ t9_0.toInt ≤ 220 := btt9_0; omega)), (show t9_0.toInt ≤ 220 from (by have z30 : (0 : Int32).toInt = 0 := rfl; have t1 : 0 ≤ t9_0.toInt ∧ t9_0.toInt ≤ 220 := btt9_0; omega)), (show 0 ≤ t9_1.toInt from (by have z30 : (0 : Int32).toInt = 0 := rfl; have t1 : 0 ≤ t9_1.toInt ∧ t9_1.toInt ≤ 1 := btt9_1; omega)), (show t9_1.toInt ≤ 1 from (by have z30 : (0 : Int32).toInt = 0 := rfl; have t1 : 0 ≤ t9_1.toInt ∧ t9_1.toInt ≤ 1 := btt9_1; omega)), (show 0 ≤ t11_0.toInt from (by have z30 : (0 : Int32).toInt = 0 := rfl; have t1 : 0 ≤ t11_0.toInt ∧ t11_0.toInt ≤ 220 := btt11_0; omega)), (show t11_0.toInt ≤ 220 from (by have z30 : (0 : Int32).toInt = 0 := rfl; have t1 : 0 ≤ t11_0.toInt ∧ t11_0.toInt ≤ 220 := btt11_0; omega)), (show 0 ≤ t11_1.toInt from (by have z30 : (0 : Int32).toInt = 0 := rfl; have t1 : 0 ≤ t11_1.toInt ∧ t11_1.toInt ≤ 1 := btt11_1; omega)), (show t11_1.toInt ≤ 1 from (by have z30 : (0 : Int32).toInt = 0 := rfl; have t1 : 0 ≤ t11_1.toInt ∧ t11_1.toInt ≤ 1 := btt11_1; omega)), (show t0_0.toInt ≤ y519.toInt from (by have z30 : (0 : Int32).toInt = 0 := rfl; have t1 : t0_0.toInt ≤ y62.toInt := b74; have t2 : y62.toInt ≤ y115.toInt := b125; have t3 : y115.toInt ≤ y166.toInt := b178; have t4 : y166.toInt ≤ y247.toInt := b259; have t5 : y247.toInt ≤ y519.toInt := b536; omega)), (show y519.toInt ≤ t0_0.toInt from (by have z30 : (0 : Int32).toInt = 0 := rfl; have t1 : y62.toInt ≤ t0_0.toInt := b75; have t2 : y115.toInt ≤ y62.toInt := b126; have t3 : y166.toInt ≤ y115.toInt := b179; have t4 : y247.toInt ≤ y166.toInt := b260; have t5 : y519.toInt ≤ y247.toInt := b537; omega)), (show y522.toInt ≤ t1_0.toInt from (by have z30 : (0 : Int32).toInt = 0 := rfl; have t1 : y65.toInt ≤ t1_0.toInt := b79; have t2 : y118.toInt ≤ y65.toInt := b130; have t3 : y169.toInt ≤ y118.toInt := b183; have t4 : y250.toInt ≤ y169.toInt := b264; have t5 : y522.toInt ≤ y250.toInt := b541; omega)), (show y531.toInt ≤ t3_1.toInt from (by have z30 : (0 : Int32).toInt = 0 := rfl; have t1 : 0 ≤ t3_1.toInt ∧ t3_1.toInt ≤ 1 := btt3_1; have t2 : y531.toInt ≤ 0 := b535; omega)), (show t9_1.toInt ≤ t9_1.toInt from (by have z30 : (0 : Int32).toInt = 0 := rfl; omega)), (show y531.toInt ≤ (0 : Int32).toInt from (by have z30 : (0 : Int32).toInt = 0 := rfl; have t1 : y531.toInt ≤ 0 := b535; omega)), (show ((0 : Int32), y519, y520, y521, y522, y523, y524, y525, y526, y527, y528, y530, y531, f532, t5_0, t5_1, t6_0, t7_0, t7_1, t8_0, t9_0, t9_1, t10_0, t11_0, t11_1, t12_0) = (F_Rea_floatText A B C t0_0 t0_1 t0_2 t0_3 t0_4 t0_5 t0_6 t0_7 t0_8 t0_9 t1_0 t2_0 t3_0 t3_1 t4_0 t5_0 t5_1 t6_0 t7_0 t7_1 t8_0 t9_0 t9_1 t10_0 t11_0 t11_1 t12_0) from Eq.trans (by have c574x := c574; rw [e555] at c574x; rw [e568, e567, e566, e565, e564, e563, e562, e561, e560, e559, e558, e557, e556, F_Rea_floatText_c83.eq_1, if_pos c574x]) hR569)⟩) d_10_4_97
          ·
            exact J323 ((y519 : Int64), (y520 : Int64), (y521 : Int32), (y522 : Int32), (y523 : Int32), (y524 : Int32), (y525 : Int32), (y526 : Int32), (y527 : Int32), (y528 : Int64), (y530 : Int32), (y531 : Int32), (f532 : (Nat → Int32))) _ _ _ _ ⟨(show q_F (0 ≤ y525.toInt) from (show 0 ≤ y525.toInt from by have t1 : 0 ≤ y531.toInt := b534; have t2 : y531.toInt ≤ y525.toInt := b546; omega)), (show q_F (0 ≤ y527.toInt) from (show 0 ≤ y527.toInt from by have t1 : 0 ≤ y531.toInt := b534; have t2 : y531.toInt ≤ y527.toInt := b547; omega)), (show q_F (y527.toInt ≤ 1) from (show y527.toInt ≤ 1 from by have t1 : y531.toInt ≤ 0 := b535; have t2 : y527.toInt ≤ y531.toInt + 1 := b548; omega)), (show q_F (0 ≤ y530.toInt) from (show 0 ≤ y530.toInt from by have t1 : 0 ≤ y531.toInt := b534; have t2 : y531.toInt ≤ y530.toInt := b549; omega)), (show q_F (y530.toInt ≤ 4100) from (show y530.toInt ≤ 4100 from by have t1 : y531.toInt ≤ 0 := b535; have t2 : y530.toInt ≤ y531.toInt + 4100 := b550; omega)), (show q_F (0 ≤ y531.toInt) from (show 0 ≤ y531.toInt from by have t1 : 0 ≤ y531.toInt := b534; omega)), (show q_F (y531.toInt ≤ 0) from (show y531.toInt ≤ 0 from by have t1 : y531.toInt ≤ 0 := b535; omega)), (show q_F (y247.toInt ≤ y519.toInt) from (show y247.toInt ≤ y519.toInt from by have t1 : y247.toInt ≤ y519.toInt := b536; omega)), (show q_F (y519.toInt ≤ y247.toInt) from (show y519.toInt ≤ y247.toInt from by have t1 : y519.toInt ≤ y247.toInt := b537; omega)), (show q_F (y248.toInt ≤ y520.toInt) from (show y248.toInt ≤ y520.toInt from by have t1 : y248.toInt ≤ y520.toInt := b538; omega)), (show q_F (y520.toInt ≤ y248.toInt) from (show y520.toInt ≤ y248.toInt from by have t1 : y520.toInt ≤ y248.toInt := b539; omega)), (show q_F (y250.toInt ≤ y522.toInt) from (show y250.toInt ≤ y522.toInt from by have t1 : y250.toInt ≤ y522.toInt := b540; omega)), (show q_F (y522.toInt ≤ y250.toInt) from (show y522.toInt ≤ y250.toInt from by have t1 : y522.toInt ≤ y250.toInt := b541; omega)), (show q_F (y251.toInt ≤ y523.toInt) from (show y251.toInt ≤ y523.toInt from by have t1 : y251.toInt ≤ y523.toInt := b542; omega)), (show q_F (y523.toInt ≤ y251.toInt) from (show y523.toInt ≤ y251.toInt from by have t1 : y523.toInt ≤ y251.toInt := b543; omega)), V, q_lw hl (q_lw1 0 rfl (q_lw1 1 rfl (q_lw1 2 rfl (q_lw1 3 rfl q_lw0)))), hI, hF, hO518, hT1, hT2, hO529, hA533, hT5, hT6, hT7, hT8, hT9, hT10, hT11, hT12, (show F_Rea_floatText_J89 A B C t0_0 t0_1 t0_2 t0_3 t0_4 t0_5 t0_6 t0_7 t0_8 t0_9 t1_0 t2_0 t3_0 t3_1 t4_0 t5_0 t5_1 t6_0 t7_0 t7_1 t8_0 t9_0 t9_1 t10_0 t11_0 t11_1 t12_0 p94 p145 p196 j229 p279 a245 y519 y520 y521 y522 y523 y524 y525 y526 y527 y528 y530 y531 f532 = (F_Rea_floatText A B C t0_0 t0_1 t0_2 t0_3 t0_4 t0_5 t0_6 t0_7 t0_8 t0_9 t1_0 t2_0 t3_0 t3_1 t4_0 t5_0 t5_1 t6_0 t7_0 t7_1 t8_0 t9_0 t9_1 t10_0 t11_0 t11_1 t12_0) from Eq.trans (by have c574x := c574; rw [e555] at c574x; rw [e568, e567, e566, e565, e564, e563, e562, e561, e560, e559, e558, e557, e556, F_Rea_floatText_c83.eq_1, if_neg c574x]) hR569), (show True ∧ S_Rea_floatText_J89 A B C t0_0 t0_1 t0_2 t0_3 t0_4 t0_5 t0_6 t0_7 t0_8 t0_9 t1_0 t2_0 t3_0 t3_1 t4_0 t5_0 t5_1 t6_0 t7_0 t7_1 t8_0 t9_0 t9_1 t10_0 t11_0 t11_1 t12_0 p94 p145 p196 j229 p279 a245 y519 y520 y521 y522 y523 y524 y525 y526 y527 y528 y530 y531 f532 from (by rw [e568, e567, e566, e565, e564, e563, e562, e561, e560, e559, e558, e557, e556]; have h := hS570; rw [S_Rea_floatText_c83.eq_1] at h; have c574x := c574; rw [e555] at c574x; rw [if_neg c574x] at h; with_reducible exact h))⟩
        ·
          refine lv_aload_n hx hb d_10_4_72 rfl (lv_at hl 2 rfl) ?_
          have ob578 : True ∧ S_Rea_takeHexadecimal y247 y248 y249 y250 y251 y252 y253 y254 y255 y256 t1_0 t2_0 t3_0 t3_1 t4_0 := (by rw [e291, e290, e289, e288, e287, e286, e285, e284, e283, e282]; have h := hS293; rw [S_Rea_floatText_c62.eq_1] at h; have c512x := c512; rw [e281] at c512x; rw [if_neg c512x] at h; with_reducible exact h.2.1)
          refine q_goi V (q_runV (As := []) (rest := []) (d := 5) (mc := 0) (ms := 0) (ci := 8) C0 V rfl LV_Rea_117 (X_Rea_takeHexadecimal l D g q u243   hI y247 y248 y249 y250 y251 y252 y253 y254 y255 y256 hO246 t1_0 hT1 t2_0 hT2 t3_0 t3_1 hT3 t4_0 hT4 ob578 _) rfl rfl hO246 rfl hl.1 rfl (Nat.le_of_ble_eq_true rfl) ⟨by decide, by decide⟩ ⟨Nat.le_of_ble_eq_true rfl, Nat.le_of_ble_eq_true rfl⟩ d_10_4_73) (fun a581 u579 H locs hp580 V => ?_)
          obtain ⟨hI, hZ9⟩ := hp580
          obtain ⟨hu616, hZ9⟩ := hZ9
          obtain ⟨y583, hZ9⟩ := hZ9
          obtain ⟨y584, hZ9⟩ := hZ9
          obtain ⟨y585, hZ9⟩ := hZ9
          obtain ⟨y586, hZ9⟩ := hZ9
          obtain ⟨y587, hZ9⟩ := hZ9
          obtain ⟨y588, hZ9⟩ := hZ9
          obtain ⟨y589, hZ9⟩ := hZ9
          obtain ⟨y590, hZ9⟩ := hZ9
          obtain ⟨y591, hZ9⟩ := hZ9
          obtain ⟨y592, hZ9⟩ := hZ9
          obtain ⟨y594, hZ9⟩ := hZ9
          obtain ⟨y595, hZ9⟩ := hZ9
          obtain ⟨f596, hZ9⟩ := hZ9
          obtain ⟨hO582, hZ9⟩ := hZ9
          obtain ⟨hO593, hZ9⟩ := hZ9
          obtain ⟨hA597, hZ9⟩ := hZ9
          obtain ⟨b598, hZ9⟩ := hZ9
          obtain ⟨b599, hZ9⟩ := hZ9
          obtain ⟨b600, hZ9⟩ := hZ9
          obtain ⟨b601, hZ9⟩ := hZ9
          obtain ⟨b602, hZ9⟩ := hZ9
          obtain ⟨b603, hZ9⟩ := hZ9
          obtain ⟨b604, hZ9⟩ := hZ9
          obtain ⟨b605, hZ9⟩ := hZ9
          obtain ⟨b606, hZ9⟩ := hZ9
          obtain ⟨b607, hZ9⟩ := hZ9
          replace hZ9 := hZ9.2.2
          obtain ⟨b610, hZ9⟩ := hZ9
          obtain ⟨b611, hZ9⟩ := hZ9
          obtain ⟨b612, hZ9⟩ := hZ9
          obtain ⟨b613, hZ9⟩ := hZ9
          obtain ⟨b614, hE615⟩ := hZ9
          replace hO582 : u579[38]? = (some (q 38, .inr (8, [.long y583, .long y584, .ref (q 1), .ref (q 9), .int y585, .int y586, .int y587, .int y588, .int y589, .int y590, .int y591, .long y592])) : Option (Nat × va_E)) := hO582
          replace hO593 : u579[10]? = (some (q 10, .inr (2, [.ref (q 11), .int y594, .int y595])) : Option (Nat × va_E)) := hO593
          replace hA597 : u579[11]? = (some (q 11, .inl (g 0, (220 : Int32).toNatClampNeg, .inl f596)) : Option (Nat × va_E)) := hA597
          obtain ⟨p617, e618⟩ : ∃ z, z = (F_Rea_takeHexadecimal y247 y248 y249 y250 y251 y252 y253 y254 y255 y256 t1_0 t2_0 t3_0 t3_1 t4_0) := ⟨_, rfl⟩
          have e619 : a581 = p617.1 := congrArg (fun z => z.1) (hE615.trans e618.symm)
          have e620 : y583 = p617.2.1 := congrArg (fun z => z.2.1) (hE615.trans e618.symm)
          have e621 : y584 = p617.2.2.1 := congrArg (fun z => z.2.2.1) (hE615.trans e618.symm)
          have e622 : y585 = p617.2.2.2.1 := congrArg (fun z => z.2.2.2.1) (hE615.trans e618.symm)
          have e623 : y586 = p617.2.2.2.2.1 := congrArg (fun z => z.2.2.2.2.1) (hE615.trans e618.symm)
          have e624 : y587 = p617.2.2.2.2.2.1 := congrArg (fun z => z.2.2.2.2.2.1) (hE615.trans e618.symm)
          have e625 : y588 = p617.2.2.2.2.2.2.1 := congrArg (fun z => z.2.2.2.2.2.2.1) (hE615.trans e618.symm)
          have e626 : y589 = p617.2.2.2.2.2.2.2.1 := congrArg (fun z => z.2.2.2.2.2.2.2.1) (hE615.trans e618.symm)
          have e627 : y590 = p617.2.2.2.2.2.2.2.2.1 := congrArg (fun z => z.2.2.2.2.2.2.2.2.1) (hE615.trans e618.symm)
          have e628 : y591 = p617.2.2.2.2.2.2.2.2.2.1 := congrArg (fun z => z.2.2.2.2.2.2.2.2.2.1) (hE615.trans e618.symm)
          have e629 : y592 = p617.2.2.2.2.2.2.2.2.2.2.1 := congrArg (fun z => z.2.2.2.2.2.2.2.2.2.2.1) (hE615.trans e618.symm)
          have e630 : y594 = p617.2.2.2.2.2.2.2.2.2.2.2.1 := congrArg (fun z => z.2.2.2.2.2.2.2.2.2.2.2.1) (hE615.trans e618.symm)
          have e631 : y595 = p617.2.2.2.2.2.2.2.2.2.2.2.2.1 := congrArg (fun z => z.2.2.2.2.2.2.2.2.2.2.2.2.1) (hE615.trans e618.symm)
          have e632 : f596 = p617.2.2.2.2.2.2.2.2.2.2.2.2.2 := congrArg (fun z => z.2.2.2.2.2.2.2.2.2.2.2.2.2) (hE615.trans e618.symm)
          replace b598 : q_F (0 ≤ y595.toInt) := b598
          replace b599 : q_F (y595.toInt ≤ 0) := b599
          replace b600 : q_F (y247.toInt ≤ y583.toInt) := b600
          replace b601 : q_F (y583.toInt ≤ y247.toInt) := b601
          replace b602 : q_F (y248.toInt ≤ y584.toInt) := b602
          replace b603 : q_F (y584.toInt ≤ y248.toInt) := b603
          replace b604 : q_F (y250.toInt ≤ y586.toInt) := b604
          replace b605 : q_F (y586.toInt ≤ y250.toInt) := b605
          replace b606 : q_F (y251.toInt ≤ y587.toInt) := b606
          replace b607 : q_F (y587.toInt ≤ y251.toInt) := b607
          replace b610 : q_F (y595.toInt ≤ y589.toInt) := b610
          replace b611 : q_F (y595.toInt ≤ y591.toInt) := b611
          replace b612 : q_F (y591.toInt ≤ y595.toInt + 1) := b612
          replace b613 : q_F (y595.toInt ≤ y594.toInt) := b613
          replace b614 : q_F (y594.toInt ≤ y595.toInt + 4100) := b614
          replace hT1 := (hu616 _ (by decide)).trans hT1
          replace hT2 := (hu616 _ (by decide)).trans hT2
          replace hT5 := (hu616 _ (by decide)).trans hT5
          replace hT6 := (hu616 _ (by decide)).trans hT6
          replace hT7 := (hu616 _ (by decide)).trans hT7
          replace hT8 := (hu616 _ (by decide)).trans hT8
          replace hT9 := (hu616 _ (by decide)).trans hT9
          replace hT10 := (hu616 _ (by decide)).trans hT10
          replace hT11 := (hu616 _ (by decide)).trans hT11
          replace hT12 := (hu616 _ (by decide)).trans hT12
          replace hF := q_uc hF hu616 (by simp)
          have hR633 := (show F_Rea_floatText_c73 A B C t0_0 t0_1 t0_2 t0_3 t0_4 t0_5 t0_6 t0_7 t0_8 t0_9 t1_0 t2_0 t3_0 t3_1 t4_0 t5_0 t5_1 t6_0 t7_0 t7_1 t8_0 t9_0 t9_1 t10_0 t11_0 t11_1 t12_0 p94 p145 p196 j229 p279 a245 p617 = (F_Rea_floatText A B C t0_0 t0_1 t0_2 t0_3 t0_4 t0_5 t0_6 t0_7 t0_8 t0_9 t1_0 t2_0 t3_0 t3_1 t4_0 t5_0 t5_1 t6_0 t7_0 t7_1 t8_0 t9_0 t9_1 t10_0 t11_0 t11_1 t12_0) from Eq.trans (by have c512x := c512; rw [e281] at c512x; rw [e618, e291, e290, e289, e288, e287, e286, e285, e284, e283, e282, e281, F_Rea_floatText_c62.eq_1, if_neg c512x]) hR292)
          have hS634 := (show True ∧ S_Rea_floatText_c73 A B C t0_0 t0_1 t0_2 t0_3 t0_4 t0_5 t0_6 t0_7 t0_8 t0_9 t1_0 t2_0 t3_0 t3_1 t4_0 t5_0 t5_1 t6_0 t7_0 t7_1 t8_0 t9_0 t9_1 t10_0 t11_0 t11_1 t12_0 p94 p145 p196 j229 p279 a245 p617 from (by rw [e618, e291, e290, e289, e288, e287, e286, e285, e284, e283, e282, e281]; have h := hS293; rw [S_Rea_floatText_c62.eq_1] at h; have c512x := c512; rw [e281] at c512x; rw [if_neg c512x] at h; replace h := q_s2 h; with_reducible exact h))
          refine lv_if_eq (tgt := 96) hx hb d_10_4_76 (by decide) (fun c638 => ?_) (fun c638 => ?_)
          ·
            refine lv_iconst (v := 0) hx hb d_10_4_96 (by decide) ?_
            exact q_reti C0 V (⟨hI, hF, y583, y584, y585, y586, y587, y588, y589, y590, y591, y592, y594, y595, f596, t5_0, t5_1, t6_0, t7_0, t7_1, t8_0, t9_0, t9_1, t10_0, t11_0, t11_1, t12_0, hO582, hO593, hA597, hT5, hT6, hT7, hT8, hT9, hT10, hT11, hT12, (show 0 ≤ (0 : Int32).toInt from (by have z30 : (0 : Int32).toInt = 0 := rfl; omega)), (show (0 : Int32).toInt ≤ 1 from (by have z30 : (0 : Int32).toInt = 0 := rfl; omega)), (show 0 ≤ y591.toInt from (by have z30 : (0 : Int32).toInt = 0 := rfl; have t1 : 0 ≤ y595.toInt := b598; have t2 : y595.toInt ≤ y591.toInt := b611; omega)), (show y591.toInt ≤ 1 from (by have z30 : (0 : Int32).toInt = 0 := rfl; have t1 : y595.toInt ≤ 0 := b599; have t2 : y591.toInt ≤ y595.toInt + 1 := b612; omega)), (show 0 ≤ y594.toInt from (by have z30 : (0 : Int32).toInt = 0 := rfl; have t1 : 0 ≤ y595.toInt := b598; have t2 : y595.toInt ≤ y594.toInt := b613; omega)), (show y594.toInt ≤ 4100 from (by have z30 : (0 : Int32).toInt = 0 := rfl; have t1 : y595.toInt ≤ 0 := b599; have t2 : y594.toInt ≤ y595.toInt + 4100 := b614; omega)), (show 0 ≤ y595.toInt from (by have z30 : (0 : Int32).toInt = 0 := rfl; have t1 : 0 ≤ y595.toInt := b598; omega)), (show y595.toInt ≤ 1 from (by have z30 : (0 : Int32).toInt = 0 := rfl; have t1 : y595.toInt ≤ 0 := b599; omega)), (show 0 ≤ t5_0.toInt from (by have z30 : (0 : Int32).toInt = 0 := rfl; have t1 : 0 ≤ t5_0.toInt ∧ t5_0.toInt ≤ 220 := btt5_0; omega)), (show t5_0.toInt ≤ 220 from (by have z30 : (0 : Int32).toInt = 0 := rfl; have t1 : 0 ≤ t5_0.toInt ∧ t5_0.toInt ≤ 220 := btt5_0; omega)), (show 0 ≤ t5_1.toInt from (by have z30 : (0 : Int32).toInt = 0 := rfl; have t1 : 0 ≤ t5_1.toInt ∧ t5_1.toInt ≤ 1 := btt5_1; omega)), (show t5_1.toInt ≤ 1 from (by have z30 : (0 : Int32).toInt = 0 := rfl; have t1 : 0 ≤ t5_1.toInt ∧ t5_1.toInt ≤ 1 := btt5_1; omega)), (show 0 ≤ t7_0.toInt from (by have z30 : (0 : Int32).toInt = 0 := rfl; have t1 : 0 ≤ t7_0.toInt ∧ t7_0.toInt ≤ 220 := btt7_0; omega)), (show t7_0.toInt ≤ 220 from (by have z30 : (0 : Int32).toInt = 0 := rfl; have t1 : 0 ≤ t7_0.toInt ∧ t7_0.toInt ≤ 220 := btt7_0; omega)), (show 0 ≤ t7_1.toInt from (by have z30 : (0 : Int32).toInt = 0 := rfl; have t1 : 0 ≤ t7_1.toInt ∧ t7_1.toInt ≤ 1 := btt7_1; omega)), (show t7_1.toInt ≤ 1 from (by have z30 : (0 : Int32).toInt = 0 := rfl; have t1 : 0 ≤ t7_1.toInt ∧ t7_1.toInt ≤ 1 := btt7_1; omega)), (show 0 ≤ t9_0.toInt from (by have z30 : (0 : Int32).toInt = 0 := rfl; have t1 : 0 ≤ t9_0.toInt ∧ t9_0.toInt ≤ 220 := btt9_0; omega)), (show t9_0.toInt ≤ 220 from (by have z30 : (0 : Int32).toInt = 0 := rfl; have t1 : 0 ≤ t9_0.toInt ∧ t9_0.toInt ≤ 220 := btt9_0; omega)), (show 0 ≤ t9_1.toInt from (by have z30 : (0 : Int32).toInt = 0 := rfl; have t1 : 0 ≤ t9_1.toInt ∧ t9_1.toInt ≤ 1 := btt9_1; omega)), (show t9_1.toInt ≤ 1 from (by have z30 : (0 : Int32).toInt = 0 := rfl; have t1 : 0 ≤ t9_1.toInt ∧ t9_1.toInt ≤ 1 := btt9_1; omega)), (show 0 ≤ t11_0.toInt from (by have z30 : (0 : Int32).toInt = 0 := rfl; have t1 : 0 ≤ t11_0.toInt ∧ t11_0.toInt ≤ 220 := btt11_0; omega)), (show t11_0.toInt ≤ 220 from (by have z30 : (0 : Int32).toInt = 0 := rfl; have t1 : 0 ≤ t11_0.toInt ∧ t11_0.toInt ≤ 220 := btt11_0; omega)), (show 0 ≤ t11_1.toInt from (by have z30 : (0 : Int32).toInt = 0 := rfl; have t1 : 0 ≤ t11_1.toInt ∧ t11_1.toInt ≤ 1 := btt11_1; omega)), (show t11_1.toInt ≤ 1 from (by have z30 : (0 : Int32).toInt = 0 := rfl; have t1 : 0 ≤ t11_1.toInt ∧ t11_1.toInt ≤ 1 := btt11_1; omega)), (show t0_0.toInt ≤ y583.toInt from (by have z30 : (0 : Int32).toInt = 0 := rfl; have t1 : t0_0.toInt ≤ y62.toInt := b74; have t2 : y62.toInt ≤ y115.toInt := b125; have t3 : y115.toInt ≤ y166.toInt := b178; have t4 : y166.toInt ≤ y247.toInt := b259; have t5 : y247.toInt ≤ y583.toInt := b600; omega)), (show y583.toInt ≤ t0_0.toInt from (by have z30 : (0 : Int32).toInt = 0 := rfl; have t1 : y62.toInt ≤ t0_0.toInt := b75; have t2 : y115.toInt ≤ y62.toInt := b126; have t3 : y166.toInt ≤ y115.toInt := b179; have t4 : y247.toInt ≤ y166.toInt := b260; have t5 : y583.toInt ≤ y247.toInt := b601; omega)), (show y586.toInt ≤ t1_0.toInt from (by have z30 : (0 : Int32).toInt = 0 := rfl; have t1 : y65.toInt ≤ t1_0.toInt := b79; have t2 : y118.toInt ≤ y65.toInt := b130; have t3 : y169.toInt ≤ y118.toInt := b183; have t4 : y250.toInt ≤ y169.toInt := b264; have t5 : y586.toInt ≤ y250.toInt := b605; omega)), (show y595.toInt ≤ t3_1.toInt from (by have z30 : (0 : Int32).toInt = 0 := rfl; have t1 : 0 ≤ t3_1.toInt ∧ t3_1.toInt ≤ 1 := btt3_1; have t2 : y595.toInt ≤ 0 := b599; omega)), (show t9_1.toInt ≤ t9_1.toInt from (by have z30 : (0 : Int32).toInt = 0 := rfl; omega)), (show y595.toInt ≤ (0 : Int32).toInt from (by have z30 : (0 : Int32).toInt = 0 := rfl; have t1 : y595.toInt ≤ 0 := b599; omega)), (show ((0 : Int32), y583, y584, y585, y586, y587, y588, y589, y590, y591, y592, y594, y595, f596, t5_0, t5_1, t6_0, t7_0, t7_1, t8_0, t9_0, t9_1, t10_0, t11_0, t11_1, t12_0) = (F_Rea_floatText A B C t0_0 t0_1 t0_2 t0_3 t0_4 t0_5 t0_6 t0_7 t0_8 t0_9 t1_0 t2_0 t3_0 t3_1 t4_0 t5_0 t5_1 t6_0 t7_0 t7_1 t8_0 t9_0 t9_1 t10_0 t11_0 t11_1 t12_0) from Eq.trans (by have c638x := c638; rw [e619] at c638x; rw [e632, e631, e630, e629, e628, e627, e626, e625, e624, e623, e622, e621, e620, F_Rea_floatText_c73.eq_1, if_pos c638x]) hR633)⟩) d_10_4_97
          ·
            refine lv_goto (tgt := 89) hx hb d_10_4_79 (by decide) ?_
            exact J323 ((y583 : Int64), (y584 : Int64), (y585 : Int32), (y586 : Int32), (y587 : Int32), (y588 : Int32), (y589 : Int32), (y590 : Int32), (y591 : Int32), (y592 : Int64), (y594 : Int32), (y595 : Int32), (f596 : (Nat → Int32))) _ _ _ _ ⟨(show q_F (0 ≤ y589.toInt) from (show 0 ≤ y589.toInt from by have t1 : 0 ≤ y595.toInt := b598; have t2 : y595.toInt ≤ y589.toInt := b610; omega)), (show q_F (0 ≤ y591.toInt) from (show 0 ≤ y591.toInt from by have t1 : 0 ≤ y595.toInt := b598; have t2 : y595.toInt ≤ y591.toInt := b611; omega)), (show q_F (y591.toInt ≤ 1) from (show y591.toInt ≤ 1 from by have t1 : y595.toInt ≤ 0 := b599; have t2 : y591.toInt ≤ y595.toInt + 1 := b612; omega)), (show q_F (0 ≤ y594.toInt) from (show 0 ≤ y594.toInt from by have t1 : 0 ≤ y595.toInt := b598; have t2 : y595.toInt ≤ y594.toInt := b613; omega)), (show q_F (y594.toInt ≤ 4100) from (show y594.toInt ≤ 4100 from by have t1 : y595.toInt ≤ 0 := b599; have t2 : y594.toInt ≤ y595.toInt + 4100 := b614; omega)), (show q_F (0 ≤ y595.toInt) from (show 0 ≤ y595.toInt from by have t1 : 0 ≤ y595.toInt := b598; omega)), (show q_F (y595.toInt ≤ 0) from (show y595.toInt ≤ 0 from by have t1 : y595.toInt ≤ 0 := b599; omega)), (show q_F (y247.toInt ≤ y583.toInt) from (show y247.toInt ≤ y583.toInt from by have t1 : y247.toInt ≤ y583.toInt := b600; omega)), (show q_F (y583.toInt ≤ y247.toInt) from (show y583.toInt ≤ y247.toInt from by have t1 : y583.toInt ≤ y247.toInt := b601; omega)), (show q_F (y248.toInt ≤ y584.toInt) from (show y248.toInt ≤ y584.toInt from by have t1 : y248.toInt ≤ y584.toInt := b602; omega)), (show q_F (y584.toInt ≤ y248.toInt) from (show y584.toInt ≤ y248.toInt from by have t1 : y584.toInt ≤ y248.toInt := b603; omega)), (show q_F (y250.toInt ≤ y586.toInt) from (show y250.toInt ≤ y586.toInt from by have t1 : y250.toInt ≤ y586.toInt := b604; omega)), (show q_F (y586.toInt ≤ y250.toInt) from (show y586.toInt ≤ y250.toInt from by have t1 : y586.toInt ≤ y250.toInt := b605; omega)), (show q_F (y251.toInt ≤ y587.toInt) from (show y251.toInt ≤ y587.toInt from by have t1 : y251.toInt ≤ y587.toInt := b606; omega)), (show q_F (y587.toInt ≤ y251.toInt) from (show y587.toInt ≤ y251.toInt from by have t1 : y587.toInt ≤ y251.toInt := b607; omega)), V, q_lw hl (q_lw1 0 rfl (q_lw1 1 rfl (q_lw1 2 rfl (q_lw1 3 rfl q_lw0)))), hI, hF, hO582, hT1, hT2, hO593, hA597, hT5, hT6, hT7, hT8, hT9, hT10, hT11, hT12, (show F_Rea_floatText_J89 A B C t0_0 t0_1 t0_2 t0_3 t0_4 t0_5 t0_6 t0_7 t0_8 t0_9 t1_0 t2_0 t3_0 t3_1 t4_0 t5_0 t5_1 t6_0 t7_0 t7_1 t8_0 t9_0 t9_1 t10_0 t11_0 t11_1 t12_0 p94 p145 p196 j229 p279 a245 y583 y584 y585 y586 y587 y588 y589 y590 y591 y592 y594 y595 f596 = (F_Rea_floatText A B C t0_0 t0_1 t0_2 t0_3 t0_4 t0_5 t0_6 t0_7 t0_8 t0_9 t1_0 t2_0 t3_0 t3_1 t4_0 t5_0 t5_1 t6_0 t7_0 t7_1 t8_0 t9_0 t9_1 t10_0 t11_0 t11_1 t12_0) from Eq.trans (by have c638x := c638; rw [e619] at c638x; rw [e632, e631, e630, e629, e628, e627, e626, e625, e624, e623, e622, e621, e620, F_Rea_floatText_c73.eq_1, if_neg c638x]) hR633), (show True ∧ S_Rea_floatText_J89 A B C t0_0 t0_1 t0_2 t0_3 t0_4 t0_5 t0_6 t0_7 t0_8 t0_9 t1_0 t2_0 t3_0 t3_1 t4_0 t5_0 t5_1 t6_0 t7_0 t7_1 t8_0 t9_0 t9_1 t10_0 t11_0 t11_1 t12_0 p94 p145 p196 j229 p279 a245 y583 y584 y585 y586 y587 y588 y589 y590 y591 y592 y594 y595 f596 from (by rw [e632, e631, e630, e629, e628, e627, e626, e625, e624, e623, e622, e621, e620]; have h := hS634; rw [S_Rea_floatText_c73.eq_1] at h; have c638x := c638; rw [e619] at c638x; rw [if_neg c638x] at h; with_reducible exact h))⟩
    ·
      refine lv_aload_n hx hb d_10_4_49 rfl (lv_at hl 1 rfl) ?_
      refine lv_aload_n hx hb d_10_4_50 rfl (lv_at hl 2 rfl) ?_
      refine q_gol V (q_runV (As := []) (rest := [.ref (q 38)]) (d := 1) (mc := 0) (ms := 0) (ci := 6) C0 V rfl LV_Rea_110 (X_Flo_infinity l D g q u163 k2 A B C hB2  hI   _) rfl rfl hO223 rfl hl.1 rfl (Nat.le_of_ble_eq_true rfl) ⟨by decide, by decide⟩ ⟨Nat.le_of_ble_eq_true rfl, Nat.le_of_ble_eq_true rfl⟩ d_10_4_51) (fun j644 u642 H locs hp643 V => ?_)
      obtain ⟨rfl, hE645⟩ := hp643
      have e646 : j644 = (F_Flo_infinity A B C) := hE645
      refine lv_lload_n hx hb d_10_4_54 rfl (lv_at hl 0 rfl) ?_
      refine lv_lor hx hb d_10_4_55 ?_
      obtain ⟨j647, e648⟩ := q_nm (j644 ||| j229 : Int64)
      refine q_tl (v := j647) e648 ?_
      refine q_put (ci := 8) (j := 1) (v := .long j647) (ty := .long) C0 V i_Rea o_Rea n_Rea rfl rfl hO165 (by decide) w_286 rfl rfl rfl rfl (Nat.le_of_ble_eq_true rfl) d_10_4_56 (fun H locs w649 hu650 hO165 V => ?_)
      replace hO165 : w649[38]? = (some (q 38, .inr (8, [.long y166, .long j647, .ref (q 1), .ref (q 9), .int y168, .int y169, .int y170, .int y171, .int y172, .int y173, .int y174, .long y175])) : Option (Nat × va_E)) := hO165
      have ob651 : q_F (0 ≤ y174.toInt) := (by rw [e206]; have h := hS209; rw [S_Rea_floatText_c9.eq_1] at h; replace h := q_s2 h; have c221x := c221; rw [e220, e207, e206, e205, e204, e203, e202, e201, e200, e199, e198] at c221x; rw [if_pos c221x] at h; replace h := q_s2 h; have c240x := c240; rw [e239, e207, e206, e205, e204, e203, e202, e201, e200, e199, e198] at c240x; rw [if_neg c240x] at h; exact h.2.1)
      have ob652 : q_F (y174.toInt ≤ 1) := (by rw [e206]; have h := hS209; rw [S_Rea_floatText_c9.eq_1] at h; replace h := q_s2 h; have c221x := c221; rw [e220, e207, e206, e205, e204, e203, e202, e201, e200, e199, e198] at c221x; rw [if_pos c221x] at h; replace h := q_s2 h; have c240x := c240; rw [e239, e207, e206, e205, e204, e203, e202, e201, e200, e199, e198] at c240x; rw [if_neg c240x] at h; replace h := q_s2 h; exact h.2.1)
      replace hI := n_p38 hI hu650 hO165 ⟨(by first | with_reducible exact q_fe b176 | (have t1 : 0 ≤ y170.toInt := b176; omega)), (by first | with_reducible exact q_fe b177 | (have t1 : y170.toInt ≤ 1 := b177; omega))⟩ ⟨(by first | with_reducible exact q_fe ob651 | (have t1 : 0 ≤ y174.toInt := ob651; omega)), (by first | with_reducible exact q_fe ob652 | (have t1 : y174.toInt ≤ 1 := ob652; omega))⟩
      replace hT3 := (hu650 _ (by decide)).trans hT3
      replace hT4 := (hu650 _ (by decide)).trans hT4
      replace hT5 := (hu650 _ (by decide)).trans hT5
      replace hT6 := (hu650 _ (by decide)).trans hT6
      replace hT7 := (hu650 _ (by decide)).trans hT7
      replace hT8 := (hu650 _ (by decide)).trans hT8
      replace hT9 := (hu650 _ (by decide)).trans hT9
      replace hT10 := (hu650 _ (by decide)).trans hT10
      replace hT11 := (hu650 _ (by decide)).trans hT11
      replace hT12 := (hu650 _ (by decide)).trans hT12
      replace hF := q_us hF hu650 (by simp)
      refine lv_iconst (v := 1) hx hb d_10_4_59 (by decide) ?_
      exact q_reti C0 V (⟨hI, hF, y166, j647, y168, y169, y170, y171, y172, y173, y174, y175, t3_0, t3_1, t4_0, t5_0, t5_1, t6_0, t7_0, t7_1, t8_0, t9_0, t9_1, t10_0, t11_0, t11_1, t12_0, hO165, hT3, hT4, hT5, hT6, hT7, hT8, hT9, hT10, hT11, hT12, (show 0 ≤ (1 : Int32).toInt from (by have z30 : (1 : Int32).toInt = 1 := rfl; omega)), (show (1 : Int32).toInt ≤ 1 from (by have z30 : (1 : Int32).toInt = 1 := rfl; omega)), (show 0 ≤ y174.toInt from (by have z30 : (1 : Int32).toInt = 1 := rfl; have t1 : 0 ≤ y174.toInt := ob651; omega)), (show y174.toInt ≤ 1 from (by have z30 : (1 : Int32).toInt = 1 := rfl; have t1 : y174.toInt ≤ 1 := ob652; omega)), (show 0 ≤ t3_0.toInt from (by have z30 : (1 : Int32).toInt = 1 := rfl; have t1 : 0 ≤ t3_0.toInt ∧ t3_0.toInt ≤ 220 := btt3_0; omega)), (show t3_0.toInt ≤ 4100 from (by have z30 : (1 : Int32).toInt = 1 := rfl; have t1 : 0 ≤ t3_0.toInt ∧ t3_0.toInt ≤ 220 := btt3_0; omega)), (show 0 ≤ t3_1.toInt from (by have z30 : (1 : Int32).toInt = 1 := rfl; have t1 : 0 ≤ t3_1.toInt ∧ t3_1.toInt ≤ 1 := btt3_1; omega)), (show t3_1.toInt ≤ 1 from (by have z30 : (1 : Int32).toInt = 1 := rfl; have t1 : 0 ≤ t3_1.toInt ∧ t3_1.toInt ≤ 1 := btt3_1; omega)), (show 0 ≤ t5_0.toInt from (by have z30 : (1 : Int32).toInt = 1 := rfl; have t1 : 0 ≤ t5_0.toInt ∧ t5_0.toInt ≤ 220 := btt5_0; omega)), (show t5_0.toInt ≤ 220 from (by have z30 : (1 : Int32).toInt = 1 := rfl; have t1 : 0 ≤ t5_0.toInt ∧ t5_0.toInt ≤ 220 := btt5_0; omega)), (show 0 ≤ t5_1.toInt from (by have z30 : (1 : Int32).toInt = 1 := rfl; have t1 : 0 ≤ t5_1.toInt ∧ t5_1.toInt ≤ 1 := btt5_1; omega)), (show t5_1.toInt ≤ 1 from (by have z30 : (1 : Int32).toInt = 1 := rfl; have t1 : 0 ≤ t5_1.toInt ∧ t5_1.toInt ≤ 1 := btt5_1; omega)), (show 0 ≤ t7_0.toInt from (by have z30 : (1 : Int32).toInt = 1 := rfl; have t1 : 0 ≤ t7_0.toInt ∧ t7_0.toInt ≤ 220 := btt7_0; omega)), (show t7_0.toInt ≤ 220 from (by have z30 : (1 : Int32).toInt = 1 := rfl; have t1 : 0 ≤ t7_0.toInt ∧ t7_0.toInt ≤ 220 := btt7_0; omega)), (show 0 ≤ t7_1.toInt from (by have z30 : (1 : Int32).toInt = 1 := rfl; have t1 : 0 ≤ t7_1.toInt ∧ t7_1.toInt ≤ 1 := btt7_1; omega)), (show t7_1.toInt ≤ 1 from (by have z30 : (1 : Int32).toInt = 1 := rfl; have t1 : 0 ≤ t7_1.toInt ∧ t7_1.toInt ≤ 1 := btt7_1; omega)), (show 0 ≤ t9_0.toInt from (by have z30 : (1 : Int32).toInt = 1 := rfl; have t1 : 0 ≤ t9_0.toInt ∧ t9_0.toInt ≤ 220 := btt9_0; omega)), (show t9_0.toInt ≤ 220 from (by have z30 : (1 : Int32).toInt = 1 := rfl; have t1 : 0 ≤ t9_0.toInt ∧ t9_0.toInt ≤ 220 := btt9_0; omega)), (show 0 ≤ t9_1.toInt from (by have z30 : (1 : Int32).toInt = 1 := rfl; have t1 : 0 ≤ t9_1.toInt ∧ t9_1.toInt ≤ 1 := btt9_1; omega)), (show t9_1.toInt ≤ 1 from (by have z30 : (1 : Int32).toInt = 1 := rfl; have t1 : 0 ≤ t9_1.toInt ∧ t9_1.toInt ≤ 1 := btt9_1; omega)), (show 0 ≤ t11_0.toInt from (by have z30 : (1 : Int32).toInt = 1 := rfl; have t1 : 0 ≤ t11_0.toInt ∧ t11_0.toInt ≤ 220 := btt11_0; omega)), (show t11_0.toInt ≤ 220 from (by have z30 : (1 : Int32).toInt = 1 := rfl; have t1 : 0 ≤ t11_0.toInt ∧ t11_0.toInt ≤ 220 := btt11_0; omega)), (show 0 ≤ t11_1.toInt from (by have z30 : (1 : Int32).toInt = 1 := rfl; have t1 : 0 ≤ t11_1.toInt ∧ t11_1.toInt ≤ 1 := btt11_1; omega)), (show t11_1.toInt ≤ 1 from (by have z30 : (1 : Int32).toInt = 1 := rfl; have t1 : 0 ≤ t11_1.toInt ∧ t11_1.toInt ≤ 1 := btt11_1; omega)), (show t0_0.toInt ≤ y166.toInt from (by have z30 : (1 : Int32).toInt = 1 := rfl; have t1 : t0_0.toInt ≤ y62.toInt := b74; have t2 : y62.toInt ≤ y115.toInt := b125; have t3 : y115.toInt ≤ y166.toInt := b178; omega)), (show y166.toInt ≤ t0_0.toInt from (by have z30 : (1 : Int32).toInt = 1 := rfl; have t1 : y62.toInt ≤ t0_0.toInt := b75; have t2 : y115.toInt ≤ y62.toInt := b126; have t3 : y166.toInt ≤ y115.toInt := b179; omega)), (show y169.toInt ≤ t1_0.toInt from (by have z30 : (1 : Int32).toInt = 1 := rfl; have t1 : y65.toInt ≤ t1_0.toInt := b79; have t2 : y118.toInt ≤ y65.toInt := b130; have t3 : y169.toInt ≤ y118.toInt := b183; omega)), (show t3_1.toInt ≤ t3_1.toInt from (by have z30 : (1 : Int32).toInt = 1 := rfl; omega)), (show t9_1.toInt ≤ t9_1.toInt from (by have z30 : (1 : Int32).toInt = 1 := rfl; omega)), (show t3_1.toInt ≤ (1 : Int32).toInt from (by have z30 : (1 : Int32).toInt = 1 := rfl; have t1 : 0 ≤ t3_1.toInt ∧ t3_1.toInt ≤ 1 := btt3_1; omega)), (show ((1 : Int32), y166, j647, y168, y169, y170, y171, y172, y173, y174, y175, t3_0, t3_1, t4_0, t5_0, t5_1, t6_0, t7_0, t7_1, t8_0, t9_0, t9_1, t10_0, t11_0, t11_1, t12_0) = (F_Rea_floatText A B C t0_0 t0_1 t0_2 t0_3 t0_4 t0_5 t0_6 t0_7 t0_8 t0_9 t1_0 t2_0 t3_0 t3_1 t4_0 t5_0 t5_1 t6_0 t7_0 t7_1 t8_0 t9_0 t9_1 t10_0 t11_0 t11_1 t12_0) from Eq.trans (by have c221x := c221; rw [e220, e207, e206, e205, e204, e203, e202, e201, e200, e199, e198] at c221x; have c240x := c240; rw [e239, e207, e206, e205, e204, e203, e202, e201, e200, e199, e198] at c240x; rw [← e648, e646, e231, e207, e206, e205, e204, e203, e202, e201, e200, e198, F_Rea_floatText_c9.eq_1, if_pos c221x, if_neg c240x]) hR208)⟩) d_10_4_60
  ·
    refine lv_aload_n hx hb d_10_4_21 rfl (lv_at hl 0 rfl) ?_
    refine lv_aload_n hx hb d_10_4_22 rfl (lv_at hl 1 rfl) ?_
    obtain ⟨y655, y656, y657, hO654⟩ := n_flO hI hB2
    refine q_gol V (q_runV (As := []) (rest := [.ref (q 38)]) (d := 2) (mc := 0) (ms := 0) (ci := 6) C0 V rfl LV_Rea_95 (X_Flo_noNumber l D g q u163 k2 A B C hB2  hI   _) rfl rfl hO654 rfl hl.1 rfl (Nat.le_of_ble_eq_true rfl) ⟨by decide, by decide⟩ ⟨Nat.le_of_ble_eq_true rfl, Nat.le_of_ble_eq_true rfl⟩ d_10_4_23) (fun j660 u658 H locs hp659 V => ?_)
    obtain ⟨rfl, hE661⟩ := hp659
    have e662 : j660 = (F_Flo_noNumber A B C) := hE661
    refine q_put (ci := 8) (j := 1) (v := .long j660) (ty := .long) C0 V i_Rea o_Rea n_Rea rfl rfl hO165 (by decide) w_286 rfl rfl rfl rfl (Nat.le_of_ble_eq_true rfl) d_10_4_26 (fun H locs w663 hu664 hO165 V => ?_)
    replace hO165 : w663[38]? = (some (q 38, .inr (8, [.long y166, .long j660, .ref (q 1), .ref (q 9), .int y168, .int y169, .int y170, .int y171, .int y172, .int y173, .int y174, .long y175])) : Option (Nat × va_E)) := hO165
    have ob665 : q_F (0 ≤ y174.toInt) := (by rw [e206]; have h := hS209; rw [S_Rea_floatText_c9.eq_1] at h; replace h := q_s2 h; have c221x := c221; rw [e220, e207, e206, e205, e204, e203, e202, e201, e200, e199, e198] at c221x; rw [if_neg c221x] at h; exact h.2.1)
    have ob666 : q_F (y174.toInt ≤ 1) := (by rw [e206]; have h := hS209; rw [S_Rea_floatText_c9.eq_1] at h; replace h := q_s2 h; have c221x := c221; rw [e220, e207, e206, e205, e204, e203, e202, e201, e200, e199, e198] at c221x; rw [if_neg c221x] at h; replace h := q_s2 h; exact h.2.1)
    replace hI := n_p38 hI hu664 hO165 ⟨(by first | with_reducible exact q_fe b176 | (have t1 : 0 ≤ y170.toInt := b176; omega)), (by first | with_reducible exact q_fe b177 | (have t1 : y170.toInt ≤ 1 := b177; omega))⟩ ⟨(by first | with_reducible exact q_fe ob665 | (have t1 : 0 ≤ y174.toInt := ob665; omega)), (by first | with_reducible exact q_fe ob666 | (have t1 : y174.toInt ≤ 1 := ob666; omega))⟩
    replace hT3 := (hu664 _ (by decide)).trans hT3
    replace hT4 := (hu664 _ (by decide)).trans hT4
    replace hT5 := (hu664 _ (by decide)).trans hT5
    replace hT6 := (hu664 _ (by decide)).trans hT6
    replace hT7 := (hu664 _ (by decide)).trans hT7
    replace hT8 := (hu664 _ (by decide)).trans hT8
    replace hT9 := (hu664 _ (by decide)).trans hT9
    replace hT10 := (hu664 _ (by decide)).trans hT10
    replace hT11 := (hu664 _ (by decide)).trans hT11
    replace hT12 := (hu664 _ (by decide)).trans hT12
    replace hF := q_us hF hu664 (by simp)
    refine lv_iconst (v := 1) hx hb d_10_4_29 (by decide) ?_
    exact q_reti C0 V (⟨hI, hF, y166, j660, y168, y169, y170, y171, y172, y173, y174, y175, t3_0, t3_1, t4_0, t5_0, t5_1, t6_0, t7_0, t7_1, t8_0, t9_0, t9_1, t10_0, t11_0, t11_1, t12_0, hO165, hT3, hT4, hT5, hT6, hT7, hT8, hT9, hT10, hT11, hT12, (show 0 ≤ (1 : Int32).toInt from (by have z30 : (1 : Int32).toInt = 1 := rfl; omega)), (show (1 : Int32).toInt ≤ 1 from (by have z30 : (1 : Int32).toInt = 1 := rfl; omega)), (show 0 ≤ y174.toInt from (by have z30 : (1 : Int32).toInt = 1 := rfl; have t1 : 0 ≤ y174.toInt := ob665; omega)), (show y174.toInt ≤ 1 from (by have z30 : (1 : Int32).toInt = 1 := rfl; have t1 : y174.toInt ≤ 1 := ob666; omega)), (show 0 ≤ t3_0.toInt from (by have z30 : (1 : Int32).toInt = 1 := rfl; have t1 : 0 ≤ t3_0.toInt ∧ t3_0.toInt ≤ 220 := btt3_0; omega)), (show t3_0.toInt ≤ 4100 from (by have z30 : (1 : Int32).toInt = 1 := rfl; have t1 : 0 ≤ t3_0.toInt ∧ t3_0.toInt ≤ 220 := btt3_0; omega)), (show 0 ≤ t3_1.toInt from (by have z30 : (1 : Int32).toInt = 1 := rfl; have t1 : 0 ≤ t3_1.toInt ∧ t3_1.toInt ≤ 1 := btt3_1; omega)), (show t3_1.toInt ≤ 1 from (by have z30 : (1 : Int32).toInt = 1 := rfl; have t1 : 0 ≤ t3_1.toInt ∧ t3_1.toInt ≤ 1 := btt3_1; omega)), (show 0 ≤ t5_0.toInt from (by have z30 : (1 : Int32).toInt = 1 := rfl; have t1 : 0 ≤ t5_0.toInt ∧ t5_0.toInt ≤ 220 := btt5_0; omega)), (show t5_0.toInt ≤ 220 from (by have z30 : (1 : Int32).toInt = 1 := rfl; have t1 : 0 ≤ t5_0.toInt ∧ t5_0.toInt ≤ 220 := btt5_0; omega)), (show 0 ≤ t5_1.toInt from (by have z30 : (1 : Int32).toInt = 1 := rfl; have t1 : 0 ≤ t5_1.toInt ∧ t5_1.toInt ≤ 1 := btt5_1; omega)), (show t5_1.toInt ≤ 1 from (by have z30 : (1 : Int32).toInt = 1 := rfl; have t1 : 0 ≤ t5_1.toInt ∧ t5_1.toInt ≤ 1 := btt5_1; omega)), (show 0 ≤ t7_0.toInt from (by have z30 : (1 : Int32).toInt = 1 := rfl; have t1 : 0 ≤ t7_0.toInt ∧ t7_0.toInt ≤ 220 := btt7_0; omega)), (show t7_0.toInt ≤ 220 from (by have z30 : (1 : Int32).toInt = 1 := rfl; have t1 : 0 ≤ t7_0.toInt ∧ t7_0.toInt ≤ 220 := btt7_0; omega)), (show 0 ≤ t7_1.toInt from (by have z30 : (1 : Int32).toInt = 1 := rfl; have t1 : 0 ≤ t7_1.toInt ∧ t7_1.toInt ≤ 1 := btt7_1; omega)), (show t7_1.toInt ≤ 1 from (by have z30 : (1 : Int32).toInt = 1 := rfl; have t1 : 0 ≤ t7_1.toInt ∧ t7_1.toInt ≤ 1 := btt7_1; omega)), (show 0 ≤ t9_0.toInt from (by have z30 : (1 : Int32).toInt = 1 := rfl; have t1 : 0 ≤ t9_0.toInt ∧ t9_0.toInt ≤ 220 := btt9_0; omega)), (show t9_0.toInt ≤ 220 from (by have z30 : (1 : Int32).toInt = 1 := rfl; have t1 : 0 ≤ t9_0.toInt ∧ t9_0.toInt ≤ 220 := btt9_0; omega)), (show 0 ≤ t9_1.toInt from (by have z30 : (1 : Int32).toInt = 1 := rfl; have t1 : 0 ≤ t9_1.toInt ∧ t9_1.toInt ≤ 1 := btt9_1; omega)), (show t9_1.toInt ≤ 1 from (by have z30 : (1 : Int32).toInt = 1 := rfl; have t1 : 0 ≤ t9_1.toInt ∧ t9_1.toInt ≤ 1 := btt9_1; omega)), (show 0 ≤ t11_0.toInt from (by have z30 : (1 : Int32).toInt = 1 := rfl; have t1 : 0 ≤ t11_0.toInt ∧ t11_0.toInt ≤ 220 := btt11_0; omega)), (show t11_0.toInt ≤ 220 from (by have z30 : (1 : Int32).toInt = 1 := rfl; have t1 : 0 ≤ t11_0.toInt ∧ t11_0.toInt ≤ 220 := btt11_0; omega)), (show 0 ≤ t11_1.toInt from (by have z30 : (1 : Int32).toInt = 1 := rfl; have t1 : 0 ≤ t11_1.toInt ∧ t11_1.toInt ≤ 1 := btt11_1; omega)), (show t11_1.toInt ≤ 1 from (by have z30 : (1 : Int32).toInt = 1 := rfl; have t1 : 0 ≤ t11_1.toInt ∧ t11_1.toInt ≤ 1 := btt11_1; omega)), (show t0_0.toInt ≤ y166.toInt from (by have z30 : (1 : Int32).toInt = 1 := rfl; have t1 : t0_0.toInt ≤ y62.toInt := b74; have t2 : y62.toInt ≤ y115.toInt := b125; have t3 : y115.toInt ≤ y166.toInt := b178; omega)), (show y166.toInt ≤ t0_0.toInt from (by have z30 : (1 : Int32).toInt = 1 := rfl; have t1 : y62.toInt ≤ t0_0.toInt := b75; have t2 : y115.toInt ≤ y62.toInt := b126; have t3 : y166.toInt ≤ y115.toInt := b179; omega)), (show y169.toInt ≤ t1_0.toInt from (by have z30 : (1 : Int32).toInt = 1 := rfl; have t1 : y65.toInt ≤ t1_0.toInt := b79; have t2 : y118.toInt ≤ y65.toInt := b130; have t3 : y169.toInt ≤ y118.toInt := b183; omega)), (show t3_1.toInt ≤ t3_1.toInt from (by have z30 : (1 : Int32).toInt = 1 := rfl; omega)), (show t9_1.toInt ≤ t9_1.toInt from (by have z30 : (1 : Int32).toInt = 1 := rfl; omega)), (show t3_1.toInt ≤ (1 : Int32).toInt from (by have z30 : (1 : Int32).toInt = 1 := rfl; have t1 : 0 ≤ t3_1.toInt ∧ t3_1.toInt ≤ 1 := btt3_1; omega)), (show ((1 : Int32), y166, j660, y168, y169, y170, y171, y172, y173, y174, y175, t3_0, t3_1, t4_0, t5_0, t5_1, t6_0, t7_0, t7_1, t8_0, t9_0, t9_1, t10_0, t11_0, t11_1, t12_0) = (F_Rea_floatText A B C t0_0 t0_1 t0_2 t0_3 t0_4 t0_5 t0_6 t0_7 t0_8 t0_9 t1_0 t2_0 t3_0 t3_1 t4_0 t5_0 t5_1 t6_0 t7_0 t7_1 t8_0 t9_0 t9_1 t10_0 t11_0 t11_1 t12_0) from Eq.trans (by have c221x := c221; rw [e220, e207, e206, e205, e204, e203, e202, e201, e200, e199, e198] at c221x; rw [e662, e207, e206, e205, e204, e203, e202, e201, e200, e198, F_Rea_floatText_c9.eq_1, if_neg c221x]) hR208)⟩) d_10_4_30

