theorem d_15_7_0 : decode prog_15_method_7_code 0 = .ok (.iconst 0, 1) := by decide +kernel
theorem d_15_7_1 : decode prog_15_method_7_code 1 = .ok (.istore_n 1, 1) := by decide +kernel
theorem d_15_7_2 : decode prog_15_method_7_code 2 = .ok (.iload_n 1, 1) := by decide +kernel
theorem d_15_7_3 : decode prog_15_method_7_code 3 = .ok (.iconst 1, 1) := by decide +kernel
theorem d_15_7_4 : decode prog_15_method_7_code 4 = .ok (.iadd, 1) := by decide +kernel
theorem d_15_7_5 : decode prog_15_method_7_code 5 = .ok (.aload_n 0, 1) := by decide +kernel
theorem d_15_7_6 : decode prog_15_method_7_code 6 = .ok (.getfield 45, 3) := by decide +kernel
theorem d_15_7_27 : decode prog_15_method_7_code 27 = .ok (.iconst 0, 1) := by decide +kernel
theorem d_15_7_28 : decode prog_15_method_7_code 28 = .ok (.istore_n 2, 1) := by decide +kernel
theorem d_15_7_29 : decode prog_15_method_7_code 29 = .ok (.iload_n 2, 1) := by decide +kernel
theorem d_15_7_30 : decode prog_15_method_7_code 30 = .ok (.iload_n 1, 1) := by decide +kernel
theorem d_15_7_31 : decode prog_15_method_7_code 31 = .ok (.iadd, 1) := by decide +kernel
theorem d_15_7_32 : decode prog_15_method_7_code 32 = .ok (.aload_n 0, 1) := by decide +kernel
theorem d_15_7_33 : decode prog_15_method_7_code 33 = .ok (.getfield 45, 3) := by decide +kernel
theorem d_15_7_36 : decode prog_15_method_7_code 36 = .ok (.if_icmp .ge 23, 3) := by decide +kernel
theorem d_15_7_59 : decode prog_15_method_7_code 59 = .ok (.aload_n 0, 1) := by decide +kernel
theorem d_15_7_60 : decode prog_15_method_7_code 60 = .ok (.getfield 45, 3) := by decide +kernel
theorem d_15_7_91 : decode prog_15_method_7_code 91 = .ok (.aload_n 0, 1) := by decide +kernel
theorem d_15_7_92 : decode prog_15_method_7_code 92 = .ok (.aload_n 0, 1) := by decide +kernel
theorem d_15_7_93 : decode prog_15_method_7_code 93 = .ok (.getfield 56, 3) := by decide +kernel
theorem d_15_7_96 : decode prog_15_method_7_code 96 = .ok (.ifCond .eq 16, 3) := by decide +kernel
theorem d_15_7_112 : decode prog_15_method_7_code 112 = .ok (.iconst 0, 1) := by decide +kernel
theorem d_15_7_113 : decode prog_15_method_7_code 113 = .ok (.putfield 56, 3) := by decide +kernel
theorem d_15_7_116 : decode prog_15_method_7_code 116 = .ok (.return_, 1) := by decide +kernel
theorem d_15_7_99 : decode prog_15_method_7_code 99 = .ok (.aload_n 0, 1) := by decide +kernel
theorem d_15_7_100 : decode prog_15_method_7_code 100 = .ok (.getfield 26, 3) := by decide +kernel
theorem d_15_7_103 : decode prog_15_method_7_code 103 = .ok (.iconst 0, 1) := by decide +kernel
theorem d_15_7_104 : decode prog_15_method_7_code 104 = .ok (.iaload, 1) := by decide +kernel
theorem d_15_7_105 : decode prog_15_method_7_code 105 = .ok (.ifCond .eq 7, 3) := by decide +kernel
theorem d_15_7_108 : decode prog_15_method_7_code 108 = .ok (.iconst 1, 1) := by decide +kernel
theorem d_15_7_109 : decode prog_15_method_7_code 109 = .ok (.goto 4, 3) := by decide +kernel
theorem d_15_7_63 : decode prog_15_method_7_code 63 = .ok (.ifCond .ne 18, 3) := by decide +kernel
theorem d_15_7_81 : decode prog_15_method_7_code 81 = .ok (.aload_n 0, 1) := by decide +kernel
theorem d_15_7_82 : decode prog_15_method_7_code 82 = .ok (.aload_n 0, 1) := by decide +kernel
theorem d_15_7_83 : decode prog_15_method_7_code 83 = .ok (.getfield 45, 3) := by decide +kernel
theorem d_15_7_86 : decode prog_15_method_7_code 86 = .ok (.iload_n 1, 1) := by decide +kernel
theorem d_15_7_87 : decode prog_15_method_7_code 87 = .ok (.isub, 1) := by decide +kernel
theorem d_15_7_88 : decode prog_15_method_7_code 88 = .ok (.putfield 45, 3) := by decide +kernel
theorem d_15_7_66 : decode prog_15_method_7_code 66 = .ok (.aload_n 0, 1) := by decide +kernel
theorem d_15_7_67 : decode prog_15_method_7_code 67 = .ok (.getfield 26, 3) := by decide +kernel
theorem d_15_7_70 : decode prog_15_method_7_code 70 = .ok (.iconst 0, 1) := by decide +kernel
theorem d_15_7_71 : decode prog_15_method_7_code 71 = .ok (.iconst 0, 1) := by decide +kernel
theorem d_15_7_72 : decode prog_15_method_7_code 72 = .ok (.iastore, 1) := by decide +kernel
theorem d_15_7_73 : decode prog_15_method_7_code 73 = .ok (.aload_n 0, 1) := by decide +kernel
theorem d_15_7_74 : decode prog_15_method_7_code 74 = .ok (.iconst 1, 1) := by decide +kernel
theorem d_15_7_75 : decode prog_15_method_7_code 75 = .ok (.putfield 45, 3) := by decide +kernel
theorem d_15_7_78 : decode prog_15_method_7_code 78 = .ok (.goto 13, 3) := by decide +kernel
theorem d_15_7_39 : decode prog_15_method_7_code 39 = .ok (.aload_n 0, 1) := by decide +kernel
theorem d_15_7_40 : decode prog_15_method_7_code 40 = .ok (.getfield 26, 3) := by decide +kernel
theorem d_15_7_43 : decode prog_15_method_7_code 43 = .ok (.iload_n 2, 1) := by decide +kernel
theorem d_15_7_44 : decode prog_15_method_7_code 44 = .ok (.aload_n 0, 1) := by decide +kernel
theorem d_15_7_45 : decode prog_15_method_7_code 45 = .ok (.getfield 26, 3) := by decide +kernel
theorem d_15_7_48 : decode prog_15_method_7_code 48 = .ok (.iload_n 2, 1) := by decide +kernel
theorem d_15_7_49 : decode prog_15_method_7_code 49 = .ok (.iload_n 1, 1) := by decide +kernel
theorem d_15_7_50 : decode prog_15_method_7_code 50 = .ok (.iadd, 1) := by decide +kernel
theorem d_15_7_51 : decode prog_15_method_7_code 51 = .ok (.iaload, 1) := by decide +kernel
theorem d_15_7_52 : decode prog_15_method_7_code 52 = .ok (.iastore, 1) := by decide +kernel
theorem d_15_7_53 : decode prog_15_method_7_code 53 = .ok (.iinc 2 1, 3) := by decide +kernel
theorem d_15_7_56 : decode prog_15_method_7_code 56 = .ok (.goto (-27), 3) := by decide +kernel
theorem d_15_7_9 : decode prog_15_method_7_code 9 = .ok (.if_icmp .ge 18, 3) := by decide +kernel
theorem d_15_7_12 : decode prog_15_method_7_code 12 = .ok (.aload_n 0, 1) := by decide +kernel
theorem d_15_7_13 : decode prog_15_method_7_code 13 = .ok (.getfield 26, 3) := by decide +kernel
theorem d_15_7_16 : decode prog_15_method_7_code 16 = .ok (.iload_n 1, 1) := by decide +kernel
theorem d_15_7_17 : decode prog_15_method_7_code 17 = .ok (.iaload, 1) := by decide +kernel
theorem d_15_7_18 : decode prog_15_method_7_code 18 = .ok (.ifCond .ne 9, 3) := by decide +kernel
theorem d_15_7_21 : decode prog_15_method_7_code 21 = .ok (.iinc 1 1, 3) := by decide +kernel
theorem d_15_7_24 : decode prog_15_method_7_code 24 = .ok (.goto (-22), 3) := by decide +kernel
def y_DR_trim : MethodName := ⟨"NumberHouseModel$DecimalRows", "trim", "()V"⟩
def F_DR_trim_J91 (K_F_DR_trim_L2 : Int32 → (Int32 × Int32 × Int32 × Int64 × Int32 × Int32 × Int32 × Int32 × Int32 × Int32 × Int32 × (Nat → Int32))) (K_F_DR_trim_L29 : Int32 → (Nat → Int32) → (Int32 × Int32 × Int32 × Int64 × Int32 × Int32 × Int32 × Int32 × Int32 × Int32 × Int32 × (Nat → Int32))) (t0_0 : Int32) (t0_1 : Int32) (t0_2 : Int32) (t0_3 : Int64) (t0_4 : Int32) (t0_5 : Int32) (t0_6 : Int32) (t0_7 : Int32) (t0_8 : Int32) (t0_9 : Int32) (t0_10 : Int32) (t1_0 : (Nat → Int32)) (lx21 : Int32) (lx42 : Int32) (lx43 : (Nat → Int32)) (lx60 : Int32) (lx61 : (Nat → Int32)) : Int32 × Int32 × Int32 × Int64 × Int32 × Int32 × Int32 × Int32 × Int32 × Int32 × Int32 × (Nat → Int32) := if t0_5 = (0 : Int32) then ((t0_0, t0_1, lx60, t0_3, t0_4, (0 : Int32), t0_6, t0_7, t0_8, t0_9, t0_10, lx61)) else (if (lx61 (0 : Int32).toNatClampNeg : Int32) = (0 : Int32) then ((t0_0, t0_1, lx60, t0_3, t0_4, (0 : Int32), t0_6, t0_7, t0_8, t0_9, t0_10, lx61)) else ((t0_0, t0_1, lx60, t0_3, t0_4, (1 : Int32), t0_6, t0_7, t0_8, t0_9, t0_10, lx61)))
def F_DR_trim_L29 (K_F_DR_trim_L2 : Int32 → (Int32 × Int32 × Int32 × Int64 × Int32 × Int32 × Int32 × Int32 × Int32 × Int32 × Int32 × (Nat → Int32))) (t0_0 : Int32) (t0_1 : Int32) (t0_2 : Int32) (t0_3 : Int64) (t0_4 : Int32) (t0_5 : Int32) (t0_6 : Int32) (t0_7 : Int32) (t0_8 : Int32) (t0_9 : Int32) (t0_10 : Int32) (t1_0 : (Nat → Int32)) (lx21 : Int32) : Nat → Int32 → (Nat → Int32) → (Int32 × Int32 × Int32 × Int64 × Int32 × Int32 × Int32 × Int32 × Int32 × Int32 × Int32 × (Nat → Int32))
  | 0, _, _ => default
  | fm + 1, lx42, lx43 => if t0_2 ≤ (lx42 + lx21 : Int32) then (if t0_2 = (0 : Int32) then (F_DR_trim_J91 K_F_DR_trim_L2 (F_DR_trim_L29 K_F_DR_trim_L2 t0_0 t0_1 t0_2 t0_3 t0_4 t0_5 t0_6 t0_7 t0_8 t0_9 t0_10 t1_0 lx21 fm) t0_0 t0_1 t0_2 t0_3 t0_4 t0_5 t0_6 t0_7 t0_8 t0_9 t0_10 t1_0 lx21 lx42 lx43 1 (upd lx43 (0 : Int32).toNatClampNeg 0 : (Nat → Int32))) else (F_DR_trim_J91 K_F_DR_trim_L2 (F_DR_trim_L29 K_F_DR_trim_L2 t0_0 t0_1 t0_2 t0_3 t0_4 t0_5 t0_6 t0_7 t0_8 t0_9 t0_10 t1_0 lx21 fm) t0_0 t0_1 t0_2 t0_3 t0_4 t0_5 t0_6 t0_7 t0_8 t0_9 t0_10 t1_0 lx21 lx42 lx43 (t0_2 - lx21 : Int32) lx43)) else (F_DR_trim_L29 K_F_DR_trim_L2 t0_0 t0_1 t0_2 t0_3 t0_4 t0_5 t0_6 t0_7 t0_8 t0_9 t0_10 t1_0 lx21 fm (lx42 + 1 : Int32) (upd lx43 lx42.toNatClampNeg (lx43 (lx42 + lx21 : Int32).toNatClampNeg : Int32) : (Nat → Int32)))
def F_DR_trim_J27 (K_F_DR_trim_L2 : Int32 → (Int32 × Int32 × Int32 × Int64 × Int32 × Int32 × Int32 × Int32 × Int32 × Int32 × Int32 × (Nat → Int32))) (t0_0 : Int32) (t0_1 : Int32) (t0_2 : Int32) (t0_3 : Int64) (t0_4 : Int32) (t0_5 : Int32) (t0_6 : Int32) (t0_7 : Int32) (t0_8 : Int32) (t0_9 : Int32) (t0_10 : Int32) (t1_0 : (Nat → Int32)) (lx21 : Int32) : Int32 × Int32 × Int32 × Int64 × Int32 × Int32 × Int32 × Int32 × Int32 × Int32 × Int32 × (Nat → Int32) := F_DR_trim_L29 K_F_DR_trim_L2 t0_0 t0_1 t0_2 t0_3 t0_4 t0_5 t0_6 t0_7 t0_8 t0_9 t0_10 t1_0 lx21 ((12200 - (0 : Int32).toInt).toNat + 1) 0 t1_0
def F_DR_trim_L2 (t0_0 : Int32) (t0_1 : Int32) (t0_2 : Int32) (t0_3 : Int64) (t0_4 : Int32) (t0_5 : Int32) (t0_6 : Int32) (t0_7 : Int32) (t0_8 : Int32) (t0_9 : Int32) (t0_10 : Int32) (t1_0 : (Nat → Int32)) : Nat → Int32 → (Int32 × Int32 × Int32 × Int64 × Int32 × Int32 × Int32 × Int32 × Int32 × Int32 × Int32 × (Nat → Int32))
  | 0, _ => default
  | fm + 1, lx21 => if t0_2 ≤ (lx21 + 1 : Int32) then (F_DR_trim_J27 (F_DR_trim_L2 t0_0 t0_1 t0_2 t0_3 t0_4 t0_5 t0_6 t0_7 t0_8 t0_9 t0_10 t1_0 fm) t0_0 t0_1 t0_2 t0_3 t0_4 t0_5 t0_6 t0_7 t0_8 t0_9 t0_10 t1_0 lx21) else (if (t1_0 lx21.toNatClampNeg : Int32) = (0 : Int32) then (F_DR_trim_L2 t0_0 t0_1 t0_2 t0_3 t0_4 t0_5 t0_6 t0_7 t0_8 t0_9 t0_10 t1_0 fm (lx21 + 1 : Int32)) else (F_DR_trim_J27 (F_DR_trim_L2 t0_0 t0_1 t0_2 t0_3 t0_4 t0_5 t0_6 t0_7 t0_8 t0_9 t0_10 t1_0 fm) t0_0 t0_1 t0_2 t0_3 t0_4 t0_5 t0_6 t0_7 t0_8 t0_9 t0_10 t1_0 lx21))
def F_DR_trim (t0_0 : Int32) (t0_1 : Int32) (t0_2 : Int32) (t0_3 : Int64) (t0_4 : Int32) (t0_5 : Int32) (t0_6 : Int32) (t0_7 : Int32) (t0_8 : Int32) (t0_9 : Int32) (t0_10 : Int32) (t1_0 : (Nat → Int32)) : Int32 × Int32 × Int32 × Int64 × Int32 × Int32 × Int32 × Int32 × Int32 × Int32 × Int32 × (Nat → Int32) := F_DR_trim_L2 t0_0 t0_1 t0_2 t0_3 t0_4 t0_5 t0_6 t0_7 t0_8 t0_9 t0_10 t1_0 ((12200 - (0 : Int32).toInt).toNat + 1) 0
def S_DR_trim_J91 (K_S_DR_trim_L2 : Int32 → Prop) (K_S_DR_trim_L29 : Int32 → (Nat → Int32) → Prop) (t0_0 : Int32) (t0_1 : Int32) (t0_2 : Int32) (t0_3 : Int64) (t0_4 : Int32) (t0_5 : Int32) (t0_6 : Int32) (t0_7 : Int32) (t0_8 : Int32) (t0_9 : Int32) (t0_10 : Int32) (t1_0 : (Nat → Int32)) (lx21 : Int32) (lx42 : Int32) (lx43 : (Nat → Int32)) (lx60 : Int32) (lx61 : (Nat → Int32)) : Prop := if t0_5 = (0 : Int32) then (True) else (if (lx61 (0 : Int32).toNatClampNeg : Int32) = (0 : Int32) then (True) else (True))
def S_DR_trim_L29 (K_S_DR_trim_L2 : Int32 → Prop) (t0_0 : Int32) (t0_1 : Int32) (t0_2 : Int32) (t0_3 : Int64) (t0_4 : Int32) (t0_5 : Int32) (t0_6 : Int32) (t0_7 : Int32) (t0_8 : Int32) (t0_9 : Int32) (t0_10 : Int32) (t1_0 : (Nat → Int32)) (lx21 : Int32) : Nat → Int32 → (Nat → Int32) → Prop
  | 0, _, _ => False
  | fm + 1, lx42, lx43 => if t0_2 ≤ (lx42 + lx21 : Int32) then (if t0_2 = (0 : Int32) then (S_DR_trim_J91 K_S_DR_trim_L2 (S_DR_trim_L29 K_S_DR_trim_L2 t0_0 t0_1 t0_2 t0_3 t0_4 t0_5 t0_6 t0_7 t0_8 t0_9 t0_10 t1_0 lx21 fm) t0_0 t0_1 t0_2 t0_3 t0_4 t0_5 t0_6 t0_7 t0_8 t0_9 t0_10 t1_0 lx21 lx42 lx43 1 (upd lx43 (0 : Int32).toNatClampNeg 0 : (Nat → Int32))) else (S_DR_trim_J91 K_S_DR_trim_L2 (S_DR_trim_L29 K_S_DR_trim_L2 t0_0 t0_1 t0_2 t0_3 t0_4 t0_5 t0_6 t0_7 t0_8 t0_9 t0_10 t1_0 lx21 fm) t0_0 t0_1 t0_2 t0_3 t0_4 t0_5 t0_6 t0_7 t0_8 t0_9 t0_10 t1_0 lx21 lx42 lx43 (t0_2 - lx21 : Int32) lx43)) else (((lx42 + lx21 : Int32).toInt ≤ 4399) ∧ (S_DR_trim_L29 K_S_DR_trim_L2 t0_0 t0_1 t0_2 t0_3 t0_4 t0_5 t0_6 t0_7 t0_8 t0_9 t0_10 t1_0 lx21 fm (lx42 + 1 : Int32) (upd lx43 lx42.toNatClampNeg (lx43 (lx42 + lx21 : Int32).toNatClampNeg : Int32) : (Nat → Int32))))
def S_DR_trim_J27 (K_S_DR_trim_L2 : Int32 → Prop) (t0_0 : Int32) (t0_1 : Int32) (t0_2 : Int32) (t0_3 : Int64) (t0_4 : Int32) (t0_5 : Int32) (t0_6 : Int32) (t0_7 : Int32) (t0_8 : Int32) (t0_9 : Int32) (t0_10 : Int32) (t1_0 : (Nat → Int32)) (lx21 : Int32) : Prop := S_DR_trim_L29 K_S_DR_trim_L2 t0_0 t0_1 t0_2 t0_3 t0_4 t0_5 t0_6 t0_7 t0_8 t0_9 t0_10 t1_0 lx21 ((12200 - (0 : Int32).toInt).toNat + 1) 0 t1_0
def S_DR_trim_L2 (t0_0 : Int32) (t0_1 : Int32) (t0_2 : Int32) (t0_3 : Int64) (t0_4 : Int32) (t0_5 : Int32) (t0_6 : Int32) (t0_7 : Int32) (t0_8 : Int32) (t0_9 : Int32) (t0_10 : Int32) (t1_0 : (Nat → Int32)) : Nat → Int32 → Prop
  | 0, _ => False
  | fm + 1, lx21 => if t0_2 ≤ (lx21 + 1 : Int32) then (S_DR_trim_J27 (S_DR_trim_L2 t0_0 t0_1 t0_2 t0_3 t0_4 t0_5 t0_6 t0_7 t0_8 t0_9 t0_10 t1_0 fm) t0_0 t0_1 t0_2 t0_3 t0_4 t0_5 t0_6 t0_7 t0_8 t0_9 t0_10 t1_0 lx21) else ((lx21.toInt ≤ 4399) ∧ (if (t1_0 lx21.toNatClampNeg : Int32) = (0 : Int32) then (S_DR_trim_L2 t0_0 t0_1 t0_2 t0_3 t0_4 t0_5 t0_6 t0_7 t0_8 t0_9 t0_10 t1_0 fm (lx21 + 1 : Int32)) else (S_DR_trim_J27 (S_DR_trim_L2 t0_0 t0_1 t0_2 t0_3 t0_4 t0_5 t0_6 t0_7 t0_8 t0_9 t0_10 t1_0 fm) t0_0 t0_1 t0_2 t0_3 t0_4 t0_5 t0_6 t0_7 t0_8 t0_9 t0_10 t1_0 lx21)))
def S_DR_trim (t0_0 : Int32) (t0_1 : Int32) (t0_2 : Int32) (t0_3 : Int64) (t0_4 : Int32) (t0_5 : Int32) (t0_6 : Int32) (t0_7 : Int32) (t0_8 : Int32) (t0_9 : Int32) (t0_10 : Int32) (t1_0 : (Nat → Int32)) : Prop := S_DR_trim_L2 t0_0 t0_1 t0_2 t0_3 t0_4 t0_5 t0_6 t0_7 t0_8 t0_9 t0_10 t1_0 ((12200 - (0 : Int32).toInt).toNat + 1) 0
set_option maxRecDepth 100000 in
set_option maxHeartbeats 4000000 in
theorem X_DR_trim (l : Launch) (D : va_G) (g : Nat → ClassId) (q : Nat → Nat) (ws : va_W) (hI : q_I (msh g q) q ws) (t0_0 : Int32) (t0_1 : Int32) (t0_2 : Int32) (t0_3 : Int64) (t0_4 : Int32) (t0_5 : Int32) (t0_6 : Int32) (t0_7 : Int32) (t0_8 : Int32) (t0_9 : Int32) (t0_10 : Int32) (hT0 : ws[134]? = (some (q 134, .inr (14, [.int t0_0, .ref (q 135), .int t0_1, .ref (q 136), .ref (q 137), .ref (q 138), .ref (q 139), .ref (q 140), .int t0_2, .long t0_3, .int t0_4, .int t0_5, .ref (q 141), .int t0_6, .ref (q 142), .int t0_7, .ref (q 143), .int t0_8, .ref (q 144), .int t0_9, .int t0_10])) : Option (Nat × va_E))) (t1_0 : (Nat → Int32)) (hT1 : ws[140]? = (some (q 140, .inl (g 0, (4400 : Int32).toNatClampNeg, .inl t1_0)) : Option (Nat × va_E))) (hS : True ∧ S_DR_trim t0_0 t0_1 t0_2 t0_3 t0_4 t0_5 t0_6 t0_7 t0_8 t0_9 t0_10 t1_0) : q_mV l y_DR_trim prog_15_method_7_code 3 1 0 0 D g [.ref (q 134)] ws (fun u => q_I (msh g q) q u ∧ q_un ws u [134, 140] ∧ ∃ (u0_0 : Int32) (u0_1 : Int32) (u0_2 : Int32) (u0_3 : Int64) (u0_4 : Int32) (u0_5 : Int32) (u0_6 : Int32) (u0_7 : Int32) (u0_8 : Int32) (u0_9 : Int32) (u0_10 : Int32) (u1_0 : (Nat → Int32)), u[134]? = (some (q 134, .inr (14, [.int u0_0, .ref (q 135), .int u0_1, .ref (q 136), .ref (q 137), .ref (q 138), .ref (q 139), .ref (q 140), .int u0_2, .long u0_3, .int u0_4, .int u0_5, .ref (q 141), .int u0_6, .ref (q 142), .int u0_7, .ref (q 143), .int u0_8, .ref (q 144), .int u0_9, .int u0_10])) : Option (Nat × va_E)) ∧ u[140]? = (some (q 140, .inl (g 0, (4400 : Int32).toNatClampNeg, .inl u1_0)) : Option (Nat × va_E)) ∧ (0 ≤ u0_5.toInt) ∧ (t0_0.toInt ≤ u0_0.toInt) ∧ (u0_0.toInt ≤ t0_0.toInt) ∧ (t0_1.toInt ≤ u0_1.toInt) ∧ (u0_1.toInt ≤ t0_1.toInt) ∧ (t0_2.toInt ≤ u0_1.toInt + 24400) ∧ (t0_3.toInt ≤ u0_3.toInt) ∧ (u0_3.toInt ≤ t0_3.toInt) ∧ (t0_2.toInt ≤ u0_4.toInt + 24400) ∧ (t0_4.toInt ≤ u0_4.toInt) ∧ (u0_4.toInt ≤ t0_4.toInt) ∧ (t0_2.toInt ≤ u0_5.toInt + 24400) ∧ (u0_5.toInt ≤ t0_5.toInt) ∧ (t0_6.toInt ≤ u0_6.toInt) ∧ (u0_6.toInt ≤ t0_6.toInt) ∧ (t0_7.toInt ≤ u0_7.toInt) ∧ (u0_7.toInt ≤ t0_7.toInt) ∧ (t0_8.toInt ≤ u0_8.toInt) ∧ (u0_8.toInt ≤ t0_8.toInt) ∧ (t0_2.toInt ≤ u0_9.toInt + 24400) ∧ (t0_9.toInt ≤ u0_9.toInt) ∧ (u0_9.toInt ≤ t0_9.toInt) ∧ (t0_10.toInt ≤ u0_10.toInt) ∧ (u0_10.toInt ≤ t0_10.toInt) ∧ (u0_0, u0_1, u0_2, u0_3, u0_4, u0_5, u0_6, u0_7, u0_8, u0_9, u0_10, u1_0) = (F_DR_trim t0_0 t0_1 t0_2 t0_3 t0_4 t0_5 t0_6 t0_7 t0_8 t0_9 t0_10 t1_0)) := by
  intro sz
  refine q_into (by decide) (Nat.le_of_ble_eq_true rfl) ?_
  intro p e s m below meth c ls hsz C0 V hl
  have hx := C0.1
  have hb := C0.2.1
  obtain ⟨btt0_1, hZ9⟩ := n_w134 hI hT0
  obtain ⟨btt0_4, hZ9⟩ := hZ9
  obtain ⟨btt0_5, btt0_9⟩ := hZ9
  replace btt0_1 : q_F (0 ≤ t0_1.toInt ∧ t0_1.toInt ≤ 4100) := btt0_1
  replace btt0_4 : q_F (0 ≤ t0_4.toInt ∧ t0_4.toInt ≤ 1) := btt0_4
  replace btt0_5 : q_F (0 ≤ t0_5.toInt ∧ t0_5.toInt ≤ 1) := btt0_5
  replace btt0_9 : q_F (0 ≤ t0_9.toInt ∧ t0_9.toInt ≤ 12200) := btt0_9
  have hF : q_un ws ws [134, 140] := q_u0
  have hl : lv_has ls 3 [(0, .ref (q 134))] := hl
  refine lv_iconst (v := 0) hx hb d_15_7_0 (by decide) ?_
  refine lv_istore_n (lv' := [(1, .int 0), (0, .ref (q 134))]) hx hb d_15_7_1 rfl hl (by decide) rfl (fun ls hl => ?_)
  refine q_loop (X := Int32) (fun z H locs ls _ => q_F (0 ≤ z.toInt) ∧ q_F (z.toInt ≤ 12200) ∧ q_Wd D g (va_A ws sz) s ws H locs ∧ lv_has ls 3 [(1, .int z), (0, .ref (q 134))] ∧ (∃ n, (12200 - z.toInt).toNat < n ∧ F_DR_trim_L2 t0_0 t0_1 t0_2 t0_3 t0_4 t0_5 t0_6 t0_7 t0_8 t0_9 t0_10 t1_0 n z = (F_DR_trim t0_0 t0_1 t0_2 t0_3 t0_4 t0_5 t0_6 t0_7 t0_8 t0_9 t0_10 t1_0) ∧ True ∧ S_DR_trim_L2 t0_0 t0_1 t0_2 t0_3 t0_4 t0_5 t0_6 t0_7 t0_8 t0_9 t0_10 t1_0 n z)) (fun z => (12200 - z.toInt).toNat) ?_ ((0 : Int32)) _ _ _ ws ⟨(show q_F (0 ≤ 0) from (show 0 ≤ 0 from by omega)), (show q_F (0 ≤ 12200) from (show 0 ≤ 12200 from by omega)), V, q_lw hl (q_lw1 0 rfl (q_lw1 1 rfl q_lw0)), ⟨((12200 - (0 : Int32).toInt).toNat + 1), Nat.lt_succ_self _, (show F_DR_trim_L2 t0_0 t0_1 t0_2 t0_3 t0_4 t0_5 t0_6 t0_7 t0_8 t0_9 t0_10 t1_0 ((12200 - (0 : Int32).toInt).toNat + 1) 0 = (F_DR_trim t0_0 t0_1 t0_2 t0_3 t0_4 t0_5 t0_6 t0_7 t0_8 t0_9 t0_10 t1_0) from (by rw [F_DR_trim.eq_1])), (show True ∧ S_DR_trim_L2 t0_0 t0_1 t0_2 t0_3 t0_4 t0_5 t0_6 t0_7 t0_8 t0_9 t0_10 t1_0 ((12200 - (0 : Int32).toInt).toNat + 1) 0 from (by have h := hS; rw [S_DR_trim.eq_1] at h; with_reducible exact h))⟩⟩
  rintro lx21 H locs ls _ ⟨i22, i23, V, hl, ⟨fu27, hf28, hR25, hS26⟩⟩ ih24
  obtain ⟨fm29, rfl⟩ : ∃ m, fu27 = m + 1 := ⟨fu27 - 1, by omega⟩
  replace i22 : q_F (0 ≤ lx21.toInt) := i22
  replace i23 : q_F (lx21.toInt ≤ 12200) := i23
  replace hl : lv_has ls 3 [(1, .int lx21), (0, .ref (q 134))] := hl
  refine lv_iload_n hx hb d_15_7_2 rfl (lv_at hl 0 rfl) ?_
  refine lv_iconst (v := 1) hx hb d_15_7_3 (by decide) ?_
  refine lv_iadd hx hb d_15_7_4 ?_
  obtain ⟨a30, e31⟩ := q_nm (lx21 + 1 : Int32)
  refine q_ti (v := a30) e31 ?_
  refine lv_aload_n hx hb d_15_7_5 rfl (lv_at hl 1 rfl) ?_
  refine q_get (ci := 14) (j := 8) (v := .int t0_2) C0 V i_DR rfl rfl hT0 (by decide) w_2011 rfl d_15_7_6 ?_
  refine q_join (X := Unit) (fun z H locs ls _ => q_Wd D g (va_A ws sz) s ws H locs ∧ lv_has ls 3 [(1, .int lx21), (0, .ref (q 134))] ∧ F_DR_trim_J27 (F_DR_trim_L2 t0_0 t0_1 t0_2 t0_3 t0_4 t0_5 t0_6 t0_7 t0_8 t0_9 t0_10 t1_0 fm29) t0_0 t0_1 t0_2 t0_3 t0_4 t0_5 t0_6 t0_7 t0_8 t0_9 t0_10 t1_0 lx21 = (F_DR_trim t0_0 t0_1 t0_2 t0_3 t0_4 t0_5 t0_6 t0_7 t0_8 t0_9 t0_10 t1_0) ∧ True ∧ S_DR_trim_J27 (S_DR_trim_L2 t0_0 t0_1 t0_2 t0_3 t0_4 t0_5 t0_6 t0_7 t0_8 t0_9 t0_10 t1_0 fm29) t0_0 t0_1 t0_2 t0_3 t0_4 t0_5 t0_6 t0_7 t0_8 t0_9 t0_10 t1_0 lx21) (fun z => []) 27 0 0 ?_ ?_
  ·
    rintro _ H locs ls _ ⟨V, hl, hR36, hS37⟩
    replace hl : lv_has ls 3 [(1, .int lx21), (0, .ref (q 134))] := hl
    refine lv_iconst (v := 0) hx hb d_15_7_27 (by decide) ?_
    refine lv_istore_n (lv' := [(2, .int 0), (1, .int lx21), (0, .ref (q 134))]) hx hb d_15_7_28 rfl hl (by decide) rfl (fun ls hl => ?_)
    refine q_loop (X := Int32 × (Nat → Int32)) (fun z H locs ls w47 => q_F (0 ≤ z.1.toInt) ∧ q_F (z.1.toInt ≤ 12200) ∧ q_Wd D g (va_A ws sz) s w47 H locs ∧ lv_has ls 3 [(2, .int z.1), (1, .int lx21), (0, .ref (q 134))] ∧ q_I (msh g q) q w47 ∧ q_un ws w47 [134, 140] ∧ w47[134]? = (some (q 134, .inr (14, [.int t0_0, .ref (q 135), .int t0_1, .ref (q 136), .ref (q 137), .ref (q 138), .ref (q 139), .ref (q 140), .int t0_2, .long t0_3, .int t0_4, .int t0_5, .ref (q 141), .int t0_6, .ref (q 142), .int t0_7, .ref (q 143), .int t0_8, .ref (q 144), .int t0_9, .int t0_10])) : Option (Nat × va_E)) ∧ w47[140]? = (some (q 140, .inl (g 0, (4400 : Int32).toNatClampNeg, .inl z.2)) : Option (Nat × va_E)) ∧ (∃ n, (12200 - z.1.toInt).toNat < n ∧ F_DR_trim_L29 (F_DR_trim_L2 t0_0 t0_1 t0_2 t0_3 t0_4 t0_5 t0_6 t0_7 t0_8 t0_9 t0_10 t1_0 fm29) t0_0 t0_1 t0_2 t0_3 t0_4 t0_5 t0_6 t0_7 t0_8 t0_9 t0_10 t1_0 lx21 n z.1 z.2 = (F_DR_trim t0_0 t0_1 t0_2 t0_3 t0_4 t0_5 t0_6 t0_7 t0_8 t0_9 t0_10 t1_0) ∧ True ∧ S_DR_trim_L29 (S_DR_trim_L2 t0_0 t0_1 t0_2 t0_3 t0_4 t0_5 t0_6 t0_7 t0_8 t0_9 t0_10 t1_0 fm29) t0_0 t0_1 t0_2 t0_3 t0_4 t0_5 t0_6 t0_7 t0_8 t0_9 t0_10 t1_0 lx21 n z.1 z.2)) (fun z => (12200 - z.1.toInt).toNat) ?_ ((0 : Int32), (t1_0 : (Nat → Int32))) _ _ _ ws ⟨(show q_F (0 ≤ 0) from (show 0 ≤ 0 from by omega)), (show q_F (0 ≤ 12200) from (show 0 ≤ 12200 from by omega)), V, q_lw hl (q_lw1 0 rfl (q_lw1 1 rfl (q_lw1 2 rfl q_lw0))), hI, hF, hT0, hT1, ⟨((12200 - (0 : Int32).toInt).toNat + 1), Nat.lt_succ_self _, (show F_DR_trim_L29 (F_DR_trim_L2 t0_0 t0_1 t0_2 t0_3 t0_4 t0_5 t0_6 t0_7 t0_8 t0_9 t0_10 t1_0 fm29) t0_0 t0_1 t0_2 t0_3 t0_4 t0_5 t0_6 t0_7 t0_8 t0_9 t0_10 t1_0 lx21 ((12200 - (0 : Int32).toInt).toNat + 1) 0 t1_0 = (F_DR_trim t0_0 t0_1 t0_2 t0_3 t0_4 t0_5 t0_6 t0_7 t0_8 t0_9 t0_10 t1_0) from Eq.trans (by rw [F_DR_trim_J27.eq_1]) hR36), (show True ∧ S_DR_trim_L29 (S_DR_trim_L2 t0_0 t0_1 t0_2 t0_3 t0_4 t0_5 t0_6 t0_7 t0_8 t0_9 t0_10 t1_0 fm29) t0_0 t0_1 t0_2 t0_3 t0_4 t0_5 t0_6 t0_7 t0_8 t0_9 t0_10 t1_0 lx21 ((12200 - (0 : Int32).toInt).toNat + 1) 0 t1_0 from (by have h := hS37; rw [S_DR_trim_J27.eq_1] at h; with_reducible exact h))⟩⟩
    rintro ⟨lx42, lx43⟩ H locs ls w47 ⟨i44, i45, V, hl, hI, hF, hO48, hO49, ⟨fu52, hf53, hR50, hS51⟩⟩ ih46
    obtain ⟨fm54, rfl⟩ : ∃ m, fu52 = m + 1 := ⟨fu52 - 1, by omega⟩
    replace i44 : q_F (0 ≤ lx42.toInt) := i44
    replace i45 : q_F (lx42.toInt ≤ 12200) := i45
    replace hl : lv_has ls 3 [(2, .int lx42), (1, .int lx21), (0, .ref (q 134))] := hl
    replace hO48 : w47[134]? = (some (q 134, .inr (14, [.int t0_0, .ref (q 135), .int t0_1, .ref (q 136), .ref (q 137), .ref (q 138), .ref (q 139), .ref (q 140), .int t0_2, .long t0_3, .int t0_4, .int t0_5, .ref (q 141), .int t0_6, .ref (q 142), .int t0_7, .ref (q 143), .int t0_8, .ref (q 144), .int t0_9, .int t0_10])) : Option (Nat × va_E)) := hO48
    replace hO49 : w47[140]? = (some (q 140, .inl (g 0, (4400 : Int32).toNatClampNeg, .inl lx43)) : Option (Nat × va_E)) := hO49
    refine lv_iload_n hx hb d_15_7_29 rfl (lv_at hl 0 rfl) ?_
    refine lv_iload_n hx hb d_15_7_30 rfl (lv_at hl 1 rfl) ?_
    refine lv_iadd hx hb d_15_7_31 ?_
    obtain ⟨a55, e56⟩ := q_nm (lx42 + lx21 : Int32)
    refine q_ti (v := a55) e56 ?_
    have b57 : q_F (a55.toInt = lx42.toInt + lx21.toInt) := (by rw [← e56]; show (lx42 + lx21 : Int32).toInt = lx42.toInt + lx21.toInt; exact q_addI (x := lx42.toInt) (y := lx21.toInt) rfl rfl (by have t1 : 0 ≤ lx21.toInt := i22; have t2 : 0 ≤ lx42.toInt := i44; have t3 : lx21.toInt ≤ 12200 := i23; have t4 : lx42.toInt ≤ 12200 := i45; omega) (by have t1 : 0 ≤ lx21.toInt := i22; have t2 : 0 ≤ lx42.toInt := i44; have t3 : lx21.toInt ≤ 12200 := i23; have t4 : lx42.toInt ≤ 12200 := i45; omega))
    refine lv_aload_n hx hb d_15_7_32 rfl (lv_at hl 2 rfl) ?_
    refine q_get (ci := 14) (j := 8) (v := .int t0_2) C0 V i_DR rfl rfl hO48 (by decide) w_2011 rfl d_15_7_33 ?_
    refine lv_icmp_ge (tgt := 59) hx hb d_15_7_36 (by decide) (fun c58 => ?_) (fun c58 => ?_)
    ·
      have b59 : q_F (t0_2.toInt ≤ a55.toInt) := (q_leI c58)
      refine lv_aload_n hx hb d_15_7_59 rfl (lv_at hl 2 rfl) ?_
      refine q_get (ci := 14) (j := 8) (v := .int t0_2) C0 V i_DR rfl rfl hO48 (by decide) w_2011 rfl d_15_7_60 ?_
      refine q_join (X := Int32 × (Nat → Int32)) (fun z H locs ls w65 => q_Wd D g (va_A ws sz) s w65 H locs ∧ lv_has ls 3 [(0, .ref (q 134))] ∧ q_I (msh g q) q w65 ∧ q_un ws w65 [134, 140] ∧ w65[134]? = (some (q 134, .inr (14, [.int t0_0, .ref (q 135), .int t0_1, .ref (q 136), .ref (q 137), .ref (q 138), .ref (q 139), .ref (q 140), .int z.1, .long t0_3, .int t0_4, .int t0_5, .ref (q 141), .int t0_6, .ref (q 142), .int t0_7, .ref (q 143), .int t0_8, .ref (q 144), .int t0_9, .int t0_10])) : Option (Nat × va_E)) ∧ w65[140]? = (some (q 140, .inl (g 0, (4400 : Int32).toNatClampNeg, .inl z.2)) : Option (Nat × va_E)) ∧ F_DR_trim_J91 (F_DR_trim_L2 t0_0 t0_1 t0_2 t0_3 t0_4 t0_5 t0_6 t0_7 t0_8 t0_9 t0_10 t1_0 fm29) (F_DR_trim_L29 (F_DR_trim_L2 t0_0 t0_1 t0_2 t0_3 t0_4 t0_5 t0_6 t0_7 t0_8 t0_9 t0_10 t1_0 fm29) t0_0 t0_1 t0_2 t0_3 t0_4 t0_5 t0_6 t0_7 t0_8 t0_9 t0_10 t1_0 lx21 fm54) t0_0 t0_1 t0_2 t0_3 t0_4 t0_5 t0_6 t0_7 t0_8 t0_9 t0_10 t1_0 lx21 lx42 lx43 z.1 z.2 = (F_DR_trim t0_0 t0_1 t0_2 t0_3 t0_4 t0_5 t0_6 t0_7 t0_8 t0_9 t0_10 t1_0) ∧ True ∧ S_DR_trim_J91 (S_DR_trim_L2 t0_0 t0_1 t0_2 t0_3 t0_4 t0_5 t0_6 t0_7 t0_8 t0_9 t0_10 t1_0 fm29) (S_DR_trim_L29 (S_DR_trim_L2 t0_0 t0_1 t0_2 t0_3 t0_4 t0_5 t0_6 t0_7 t0_8 t0_9 t0_10 t1_0 fm29) t0_0 t0_1 t0_2 t0_3 t0_4 t0_5 t0_6 t0_7 t0_8 t0_9 t0_10 t1_0 lx21 fm54) t0_0 t0_1 t0_2 t0_3 t0_4 t0_5 t0_6 t0_7 t0_8 t0_9 t0_10 t1_0 lx21 lx42 lx43 z.1 z.2) (fun z => []) 91 0 0 ?_ ?_
      ·
        rintro ⟨lx60, lx61⟩ H locs ls w65 ⟨V, hl, hI, hF, hO62, hA63, hR66, hS67⟩
        replace hl : lv_has ls 3 [(0, .ref (q 134))] := hl
        replace hO62 : w65[134]? = (some (q 134, .inr (14, [.int t0_0, .ref (q 135), .int t0_1, .ref (q 136), .ref (q 137), .ref (q 138), .ref (q 139), .ref (q 140), .int lx60, .long t0_3, .int t0_4, .int t0_5, .ref (q 141), .int t0_6, .ref (q 142), .int t0_7, .ref (q 143), .int t0_8, .ref (q 144), .int t0_9, .int t0_10])) : Option (Nat × va_E)) := hO62
        replace hA63 : w65[140]? = (some (q 140, .inl (g 0, (4400 : Int32).toNatClampNeg, .inl lx61)) : Option (Nat × va_E)) := hA63
        refine lv_aload_n hx hb d_15_7_91 rfl (lv_at hl 0 rfl) ?_
        refine lv_aload_n hx hb d_15_7_92 rfl (lv_at hl 0 rfl) ?_
        refine q_get (ci := 14) (j := 11) (v := .int t0_5) C0 V i_DR rfl rfl hO62 (by decide) w_2014 rfl d_15_7_93 ?_
        refine lv_if_eq (tgt := 112) hx hb d_15_7_96 (by decide) (fun c71 => ?_) (fun c71 => ?_)
        ·
          refine lv_iconst (v := 0) hx hb d_15_7_112 (by decide) ?_
          refine q_put (ci := 14) (j := 11) (v := .int 0) (ty := .boolean) C0 V i_DR o_DR n_DR rfl rfl hO62 (by decide) w_2014 rfl rfl rfl rfl (Nat.le_of_ble_eq_true rfl) d_15_7_113 (fun H locs w73 hu74 hO62 V => ?_)
          replace hO62 : w73[134]? = (some (q 134, .inr (14, [.int t0_0, .ref (q 135), .int t0_1, .ref (q 136), .ref (q 137), .ref (q 138), .ref (q 139), .ref (q 140), .int lx60, .long t0_3, .int t0_4, .int 0, .ref (q 141), .int t0_6, .ref (q 142), .int t0_7, .ref (q 143), .int t0_8, .ref (q 144), .int t0_9, .int t0_10])) : Option (Nat × va_E)) := hO62
          replace hI := n_p134 hI hu74 hO62 (by first | with_reducible exact q_fe btt0_1 | exact ⟨(by have t1 : 0 ≤ t0_1.toInt ∧ t0_1.toInt ≤ 4100 := btt0_1; omega), (by have t1 : 0 ≤ t0_1.toInt ∧ t0_1.toInt ≤ 4100 := btt0_1; omega)⟩) (by first | with_reducible exact q_fe btt0_4 | exact ⟨(by have t1 : 0 ≤ t0_4.toInt ∧ t0_4.toInt ≤ 1 := btt0_4; omega), (by have t1 : 0 ≤ t0_4.toInt ∧ t0_4.toInt ≤ 1 := btt0_4; omega)⟩) ⟨(by have z9 : (0 : Int32).toInt = 0 := rfl; omega), (by have z9 : (0 : Int32).toInt = 0 := rfl; omega)⟩ (by first | with_reducible exact q_fe btt0_9 | exact ⟨(by have t1 : 0 ≤ t0_9.toInt ∧ t0_9.toInt ≤ 12200 := btt0_9; omega), (by have t1 : 0 ≤ t0_9.toInt ∧ t0_9.toInt ≤ 12200 := btt0_9; omega)⟩)
          replace hA63 := (hu74 _ (by decide)).trans hA63
          replace hF := q_us hF hu74 (by simp)
          exact q_retv C0 V (⟨hI, hF, t0_0, t0_1, lx60, t0_3, t0_4, 0, t0_6, t0_7, t0_8, t0_9, t0_10, lx61, hO62, hA63, (show 0 ≤ (0 : Int32).toInt from (by have z17 : (0 : Int32).toInt = 0 := rfl; omega)), (show t0_0.toInt ≤ t0_0.toInt from (by have z17 : (0 : Int32).toInt = 0 := rfl; omega)), (show t0_0.toInt ≤ t0_0.toInt from (by have z17 : (0 : Int32).toInt = 0 := rfl; omega)), (show t0_1.toInt ≤ t0_1.toInt from (by have z17 : (0 : Int32).toInt = 0 := rfl; omega)), (show t0_1.toInt ≤ t0_1.toInt from (by have z17 : (0 : Int32).toInt = 0 := rfl; omega)), (show t0_2.toInt ≤ t0_1.toInt + 24400 from (by have z17 : (0 : Int32).toInt = 0 := rfl; have t1 : 0 ≤ t0_1.toInt ∧ t0_1.toInt ≤ 4100 := btt0_1; have t2 : lx21.toInt ≤ 12200 := i23; have t3 : lx42.toInt ≤ 12200 := i45; have t4 : a55.toInt = lx42.toInt + lx21.toInt := b57; have t5 : t0_2.toInt ≤ a55.toInt := b59; omega)), (show t0_3.toInt ≤ t0_3.toInt from (by have z17 : (0 : Int32).toInt = 0 := rfl; omega)), (show t0_3.toInt ≤ t0_3.toInt from (by have z17 : (0 : Int32).toInt = 0 := rfl; omega)), (show t0_2.toInt ≤ t0_4.toInt + 24400 from (by have z17 : (0 : Int32).toInt = 0 := rfl; have t1 : 0 ≤ t0_4.toInt ∧ t0_4.toInt ≤ 1 := btt0_4; have t2 : lx21.toInt ≤ 12200 := i23; have t3 : lx42.toInt ≤ 12200 := i45; have t4 : a55.toInt = lx42.toInt + lx21.toInt := b57; have t5 : t0_2.toInt ≤ a55.toInt := b59; omega)), (show t0_4.toInt ≤ t0_4.toInt from (by have z17 : (0 : Int32).toInt = 0 := rfl; omega)), (show t0_4.toInt ≤ t0_4.toInt from (by have z17 : (0 : Int32).toInt = 0 := rfl; omega)), (show t0_2.toInt ≤ (0 : Int32).toInt + 24400 from (by have z17 : (0 : Int32).toInt = 0 := rfl; have t1 : lx21.toInt ≤ 12200 := i23; have t2 : lx42.toInt ≤ 12200 := i45; have t3 : a55.toInt = lx42.toInt + lx21.toInt := b57; have t4 : t0_2.toInt ≤ a55.toInt := b59; omega)), (show (0 : Int32).toInt ≤ t0_5.toInt from (by have z17 : (0 : Int32).toInt = 0 := rfl; have t1 : 0 ≤ t0_5.toInt ∧ t0_5.toInt ≤ 1 := btt0_5; omega)), (show t0_6.toInt ≤ t0_6.toInt from (by have z17 : (0 : Int32).toInt = 0 := rfl; omega)), (show t0_6.toInt ≤ t0_6.toInt from (by have z17 : (0 : Int32).toInt = 0 := rfl; omega)), (show t0_7.toInt ≤ t0_7.toInt from (by have z17 : (0 : Int32).toInt = 0 := rfl; omega)), (show t0_7.toInt ≤ t0_7.toInt from (by have z17 : (0 : Int32).toInt = 0 := rfl; omega)), (show t0_8.toInt ≤ t0_8.toInt from (by have z17 : (0 : Int32).toInt = 0 := rfl; omega)), (show t0_8.toInt ≤ t0_8.toInt from (by have z17 : (0 : Int32).toInt = 0 := rfl; omega)), (show t0_2.toInt ≤ t0_9.toInt + 24400 from (by have z17 : (0 : Int32).toInt = 0 := rfl; have t1 : 0 ≤ t0_9.toInt ∧ t0_9.toInt ≤ 12200 := btt0_9; have t2 : lx21.toInt ≤ 12200 := i23; have t3 : lx42.toInt ≤ 12200 := i45; have t4 : a55.toInt = lx42.toInt + lx21.toInt := b57; have t5 : t0_2.toInt ≤ a55.toInt := b59; omega)), (show t0_9.toInt ≤ t0_9.toInt from (by have z17 : (0 : Int32).toInt = 0 := rfl; omega)), (show t0_9.toInt ≤ t0_9.toInt from (by have z17 : (0 : Int32).toInt = 0 := rfl; omega)), (show t0_10.toInt ≤ t0_10.toInt from (by have z17 : (0 : Int32).toInt = 0 := rfl; omega)), (show t0_10.toInt ≤ t0_10.toInt from (by have z17 : (0 : Int32).toInt = 0 := rfl; omega)), (show (t0_0, t0_1, lx60, t0_3, t0_4, (0 : Int32), t0_6, t0_7, t0_8, t0_9, t0_10, lx61) = (F_DR_trim t0_0 t0_1 t0_2 t0_3 t0_4 t0_5 t0_6 t0_7 t0_8 t0_9 t0_10 t1_0) from Eq.trans (by rw [F_DR_trim_J91.eq_1, if_pos c71]) hR66)⟩) d_15_7_116
        ·
          have b75 : q_F (t0_5.toInt ≠ 0) := (q_neI c71)
          refine lv_aload_n hx hb d_15_7_99 rfl (lv_at hl 0 rfl) ?_
          refine q_get (ci := 14) (j := 7) (v := .ref (q 140)) C0 V i_DR rfl rfl hO62 (by decide) w_2010 rfl d_15_7_100 ?_
          refine lv_iconst (v := 0) hx hb d_15_7_103 (by decide) ?_
          refine q_iald C0 V hA63 (q_ix (x := 0) (by decide) (by omega) (by have e9 : (((4400 : Int32).toNatClampNeg : Nat) : Int) = 4400 := (by decide); omega)) d_15_7_104 ?_
          obtain ⟨a76, e77⟩ := q_nm (lx61 (0 : Int32).toNatClampNeg : Int32)
          refine q_ti (v := a76) e77 ?_
          refine lv_if_eq (tgt := 112) hx hb d_15_7_105 (by decide) (fun c78 => ?_) (fun c78 => ?_)
          ·
            refine lv_iconst (v := 0) hx hb d_15_7_112 (by decide) ?_
            refine q_put (ci := 14) (j := 11) (v := .int 0) (ty := .boolean) C0 V i_DR o_DR n_DR rfl rfl hO62 (by decide) w_2014 rfl rfl rfl rfl (Nat.le_of_ble_eq_true rfl) d_15_7_113 (fun H locs w80 hu81 hO62 V => ?_)
            replace hO62 : w80[134]? = (some (q 134, .inr (14, [.int t0_0, .ref (q 135), .int t0_1, .ref (q 136), .ref (q 137), .ref (q 138), .ref (q 139), .ref (q 140), .int lx60, .long t0_3, .int t0_4, .int 0, .ref (q 141), .int t0_6, .ref (q 142), .int t0_7, .ref (q 143), .int t0_8, .ref (q 144), .int t0_9, .int t0_10])) : Option (Nat × va_E)) := hO62
            replace hI := n_p134 hI hu81 hO62 (by first | with_reducible exact q_fe btt0_1 | exact ⟨(by have t1 : 0 ≤ t0_1.toInt ∧ t0_1.toInt ≤ 4100 := btt0_1; omega), (by have t1 : 0 ≤ t0_1.toInt ∧ t0_1.toInt ≤ 4100 := btt0_1; omega)⟩) (by first | with_reducible exact q_fe btt0_4 | exact ⟨(by have t1 : 0 ≤ t0_4.toInt ∧ t0_4.toInt ≤ 1 := btt0_4; omega), (by have t1 : 0 ≤ t0_4.toInt ∧ t0_4.toInt ≤ 1 := btt0_4; omega)⟩) ⟨(by have z9 : (0 : Int32).toInt = 0 := rfl; omega), (by have z9 : (0 : Int32).toInt = 0 := rfl; omega)⟩ (by first | with_reducible exact q_fe btt0_9 | exact ⟨(by have t1 : 0 ≤ t0_9.toInt ∧ t0_9.toInt ≤ 12200 := btt0_9; omega), (by have t1 : 0 ≤ t0_9.toInt ∧ t0_9.toInt ≤ 12200 := btt0_9; omega)⟩)
            replace hA63 := (hu81 _ (by decide)).trans hA63
            replace hF := q_us hF hu81 (by simp)
            exact q_retv C0 V (⟨hI, hF, t0_0, t0_1, lx60, t0_3, t0_4, 0, t0_6, t0_7, t0_8, t0_9, t0_10, lx61, hO62, hA63, (show 0 ≤ (0 : Int32).toInt from (by have z17 : (0 : Int32).toInt = 0 := rfl; omega)), (show t0_0.toInt ≤ t0_0.toInt from (by have z17 : (0 : Int32).toInt = 0 := rfl; omega)), (show t0_0.toInt ≤ t0_0.toInt from (by have z17 : (0 : Int32).toInt = 0 := rfl; omega)), (show t0_1.toInt ≤ t0_1.toInt from (by have z17 : (0 : Int32).toInt = 0 := rfl; omega)), (show t0_1.toInt ≤ t0_1.toInt from (by have z17 : (0 : Int32).toInt = 0 := rfl; omega)), (show t0_2.toInt ≤ t0_1.toInt + 24400 from (by have z17 : (0 : Int32).toInt = 0 := rfl; have t1 : 0 ≤ t0_1.toInt ∧ t0_1.toInt ≤ 4100 := btt0_1; have t2 : lx21.toInt ≤ 12200 := i23; have t3 : lx42.toInt ≤ 12200 := i45; have t4 : a55.toInt = lx42.toInt + lx21.toInt := b57; have t5 : t0_2.toInt ≤ a55.toInt := b59; omega)), (show t0_3.toInt ≤ t0_3.toInt from (by have z17 : (0 : Int32).toInt = 0 := rfl; omega)), (show t0_3.toInt ≤ t0_3.toInt from (by have z17 : (0 : Int32).toInt = 0 := rfl; omega)), (show t0_2.toInt ≤ t0_4.toInt + 24400 from (by have z17 : (0 : Int32).toInt = 0 := rfl; have t1 : 0 ≤ t0_4.toInt ∧ t0_4.toInt ≤ 1 := btt0_4; have t2 : lx21.toInt ≤ 12200 := i23; have t3 : lx42.toInt ≤ 12200 := i45; have t4 : a55.toInt = lx42.toInt + lx21.toInt := b57; have t5 : t0_2.toInt ≤ a55.toInt := b59; omega)), (show t0_4.toInt ≤ t0_4.toInt from (by have z17 : (0 : Int32).toInt = 0 := rfl; omega)), (show t0_4.toInt ≤ t0_4.toInt from (by have z17 : (0 : Int32).toInt = 0 := rfl; omega)), (show t0_2.toInt ≤ (0 : Int32).toInt + 24400 from (by have z17 : (0 : Int32).toInt = 0 := rfl; have t1 : lx21.toInt ≤ 12200 := i23; have t2 : lx42.toInt ≤ 12200 := i45; have t3 : a55.toInt = lx42.toInt + lx21.toInt := b57; have t4 : t0_2.toInt ≤ a55.toInt := b59; omega)), (show (0 : Int32).toInt ≤ t0_5.toInt from (by have z17 : (0 : Int32).toInt = 0 := rfl; have t1 : 0 ≤ t0_5.toInt ∧ t0_5.toInt ≤ 1 := btt0_5; omega)), (show t0_6.toInt ≤ t0_6.toInt from (by have z17 : (0 : Int32).toInt = 0 := rfl; omega)), (show t0_6.toInt ≤ t0_6.toInt from (by have z17 : (0 : Int32).toInt = 0 := rfl; omega)), (show t0_7.toInt ≤ t0_7.toInt from (by have z17 : (0 : Int32).toInt = 0 := rfl; omega)), (show t0_7.toInt ≤ t0_7.toInt from (by have z17 : (0 : Int32).toInt = 0 := rfl; omega)), (show t0_8.toInt ≤ t0_8.toInt from (by have z17 : (0 : Int32).toInt = 0 := rfl; omega)), (show t0_8.toInt ≤ t0_8.toInt from (by have z17 : (0 : Int32).toInt = 0 := rfl; omega)), (show t0_2.toInt ≤ t0_9.toInt + 24400 from (by have z17 : (0 : Int32).toInt = 0 := rfl; have t1 : 0 ≤ t0_9.toInt ∧ t0_9.toInt ≤ 12200 := btt0_9; have t2 : lx21.toInt ≤ 12200 := i23; have t3 : lx42.toInt ≤ 12200 := i45; have t4 : a55.toInt = lx42.toInt + lx21.toInt := b57; have t5 : t0_2.toInt ≤ a55.toInt := b59; omega)), (show t0_9.toInt ≤ t0_9.toInt from (by have z17 : (0 : Int32).toInt = 0 := rfl; omega)), (show t0_9.toInt ≤ t0_9.toInt from (by have z17 : (0 : Int32).toInt = 0 := rfl; omega)), (show t0_10.toInt ≤ t0_10.toInt from (by have z17 : (0 : Int32).toInt = 0 := rfl; omega)), (show t0_10.toInt ≤ t0_10.toInt from (by have z17 : (0 : Int32).toInt = 0 := rfl; omega)), (show (t0_0, t0_1, lx60, t0_3, t0_4, (0 : Int32), t0_6, t0_7, t0_8, t0_9, t0_10, lx61) = (F_DR_trim t0_0 t0_1 t0_2 t0_3 t0_4 t0_5 t0_6 t0_7 t0_8 t0_9 t0_10 t1_0) from Eq.trans (by have c78x := c78; rw [← e77] at c78x; rw [F_DR_trim_J91.eq_1, if_neg c71, if_pos c78x]) hR66)⟩) d_15_7_116
          ·
            refine lv_iconst (v := 1) hx hb d_15_7_108 (by decide) ?_
            refine lv_goto (tgt := 113) hx hb d_15_7_109 (by decide) ?_
            refine q_put (ci := 14) (j := 11) (v := .int 1) (ty := .boolean) C0 V i_DR o_DR n_DR rfl rfl hO62 (by decide) w_2014 rfl rfl rfl rfl (Nat.le_of_ble_eq_true rfl) d_15_7_113 (fun H locs w83 hu84 hO62 V => ?_)
            replace hO62 : w83[134]? = (some (q 134, .inr (14, [.int t0_0, .ref (q 135), .int t0_1, .ref (q 136), .ref (q 137), .ref (q 138), .ref (q 139), .ref (q 140), .int lx60, .long t0_3, .int t0_4, .int 1, .ref (q 141), .int t0_6, .ref (q 142), .int t0_7, .ref (q 143), .int t0_8, .ref (q 144), .int t0_9, .int t0_10])) : Option (Nat × va_E)) := hO62
            replace hI := n_p134 hI hu84 hO62 (by first | with_reducible exact q_fe btt0_1 | exact ⟨(by have t1 : 0 ≤ t0_1.toInt ∧ t0_1.toInt ≤ 4100 := btt0_1; omega), (by have t1 : 0 ≤ t0_1.toInt ∧ t0_1.toInt ≤ 4100 := btt0_1; omega)⟩) (by first | with_reducible exact q_fe btt0_4 | exact ⟨(by have t1 : 0 ≤ t0_4.toInt ∧ t0_4.toInt ≤ 1 := btt0_4; omega), (by have t1 : 0 ≤ t0_4.toInt ∧ t0_4.toInt ≤ 1 := btt0_4; omega)⟩) ⟨(by have z9 : (1 : Int32).toInt = 1 := rfl; omega), (by have z9 : (1 : Int32).toInt = 1 := rfl; omega)⟩ (by first | with_reducible exact q_fe btt0_9 | exact ⟨(by have t1 : 0 ≤ t0_9.toInt ∧ t0_9.toInt ≤ 12200 := btt0_9; omega), (by have t1 : 0 ≤ t0_9.toInt ∧ t0_9.toInt ≤ 12200 := btt0_9; omega)⟩)
            replace hA63 := (hu84 _ (by decide)).trans hA63
            replace hF := q_us hF hu84 (by simp)
            exact q_retv C0 V (⟨hI, hF, t0_0, t0_1, lx60, t0_3, t0_4, 1, t0_6, t0_7, t0_8, t0_9, t0_10, lx61, hO62, hA63, (show 0 ≤ (1 : Int32).toInt from (by have z17 : (1 : Int32).toInt = 1 := rfl; omega)), (show t0_0.toInt ≤ t0_0.toInt from (by have z17 : (1 : Int32).toInt = 1 := rfl; omega)), (show t0_0.toInt ≤ t0_0.toInt from (by have z17 : (1 : Int32).toInt = 1 := rfl; omega)), (show t0_1.toInt ≤ t0_1.toInt from (by have z17 : (1 : Int32).toInt = 1 := rfl; omega)), (show t0_1.toInt ≤ t0_1.toInt from (by have z17 : (1 : Int32).toInt = 1 := rfl; omega)), (show t0_2.toInt ≤ t0_1.toInt + 24400 from (by have z17 : (1 : Int32).toInt = 1 := rfl; have t1 : 0 ≤ t0_1.toInt ∧ t0_1.toInt ≤ 4100 := btt0_1; have t2 : lx21.toInt ≤ 12200 := i23; have t3 : lx42.toInt ≤ 12200 := i45; have t4 : a55.toInt = lx42.toInt + lx21.toInt := b57; have t5 : t0_2.toInt ≤ a55.toInt := b59; omega)), (show t0_3.toInt ≤ t0_3.toInt from (by have z17 : (1 : Int32).toInt = 1 := rfl; omega)), (show t0_3.toInt ≤ t0_3.toInt from (by have z17 : (1 : Int32).toInt = 1 := rfl; omega)), (show t0_2.toInt ≤ t0_4.toInt + 24400 from (by have z17 : (1 : Int32).toInt = 1 := rfl; have t1 : 0 ≤ t0_4.toInt ∧ t0_4.toInt ≤ 1 := btt0_4; have t2 : lx21.toInt ≤ 12200 := i23; have t3 : lx42.toInt ≤ 12200 := i45; have t4 : a55.toInt = lx42.toInt + lx21.toInt := b57; have t5 : t0_2.toInt ≤ a55.toInt := b59; omega)), (show t0_4.toInt ≤ t0_4.toInt from (by have z17 : (1 : Int32).toInt = 1 := rfl; omega)), (show t0_4.toInt ≤ t0_4.toInt from (by have z17 : (1 : Int32).toInt = 1 := rfl; omega)), (show t0_2.toInt ≤ (1 : Int32).toInt + 24400 from (by have z17 : (1 : Int32).toInt = 1 := rfl; have t1 : lx21.toInt ≤ 12200 := i23; have t2 : lx42.toInt ≤ 12200 := i45; have t3 : a55.toInt = lx42.toInt + lx21.toInt := b57; have t4 : t0_2.toInt ≤ a55.toInt := b59; omega)), (show (1 : Int32).toInt ≤ t0_5.toInt from (by have z17 : (1 : Int32).toInt = 1 := rfl; have t1 : 0 ≤ t0_5.toInt ∧ t0_5.toInt ≤ 1 := btt0_5; have t2 : t0_5.toInt ≠ 0 := b75; omega)), (show t0_6.toInt ≤ t0_6.toInt from (by have z17 : (1 : Int32).toInt = 1 := rfl; omega)), (show t0_6.toInt ≤ t0_6.toInt from (by have z17 : (1 : Int32).toInt = 1 := rfl; omega)), (show t0_7.toInt ≤ t0_7.toInt from (by have z17 : (1 : Int32).toInt = 1 := rfl; omega)), (show t0_7.toInt ≤ t0_7.toInt from (by have z17 : (1 : Int32).toInt = 1 := rfl; omega)), (show t0_8.toInt ≤ t0_8.toInt from (by have z17 : (1 : Int32).toInt = 1 := rfl; omega)), (show t0_8.toInt ≤ t0_8.toInt from (by have z17 : (1 : Int32).toInt = 1 := rfl; omega)), (show t0_2.toInt ≤ t0_9.toInt + 24400 from (by have z17 : (1 : Int32).toInt = 1 := rfl; have t1 : 0 ≤ t0_9.toInt ∧ t0_9.toInt ≤ 12200 := btt0_9; have t2 : lx21.toInt ≤ 12200 := i23; have t3 : lx42.toInt ≤ 12200 := i45; have t4 : a55.toInt = lx42.toInt + lx21.toInt := b57; have t5 : t0_2.toInt ≤ a55.toInt := b59; omega)), (show t0_9.toInt ≤ t0_9.toInt from (by have z17 : (1 : Int32).toInt = 1 := rfl; omega)), (show t0_9.toInt ≤ t0_9.toInt from (by have z17 : (1 : Int32).toInt = 1 := rfl; omega)), (show t0_10.toInt ≤ t0_10.toInt from (by have z17 : (1 : Int32).toInt = 1 := rfl; omega)), (show t0_10.toInt ≤ t0_10.toInt from (by have z17 : (1 : Int32).toInt = 1 := rfl; omega)), (show (t0_0, t0_1, lx60, t0_3, t0_4, (1 : Int32), t0_6, t0_7, t0_8, t0_9, t0_10, lx61) = (F_DR_trim t0_0 t0_1 t0_2 t0_3 t0_4 t0_5 t0_6 t0_7 t0_8 t0_9 t0_10 t1_0) from Eq.trans (by have c78x := c78; rw [← e77] at c78x; rw [F_DR_trim_J91.eq_1, if_neg c71, if_neg c78x]) hR66)⟩) d_15_7_116
      ·
        intro J64
        refine lv_if_ne (tgt := 81) hx hb d_15_7_63 (by decide) (fun c85 => ?_) (fun c85 => ?_)
        ·
          refine lv_aload_n hx hb d_15_7_81 rfl (lv_at hl 2 rfl) ?_
          refine lv_aload_n hx hb d_15_7_82 rfl (lv_at hl 2 rfl) ?_
          refine q_get (ci := 14) (j := 8) (v := .int t0_2) C0 V i_DR rfl rfl hO48 (by decide) w_2011 rfl d_15_7_83 ?_
          refine lv_iload_n hx hb d_15_7_86 rfl (lv_at hl 1 rfl) ?_
          refine lv_isub hx hb d_15_7_87 ?_
          obtain ⟨a87, e88⟩ := q_nm (t0_2 - lx21 : Int32)
          refine q_ti (v := a87) e88 ?_
          refine q_put (ci := 14) (j := 8) (v := .int a87) (ty := .int) C0 V i_DR o_DR n_DR rfl rfl hO48 (by decide) w_2011 rfl rfl rfl rfl (Nat.le_of_ble_eq_true rfl) d_15_7_88 (fun H locs w89 hu90 hO48 V => ?_)
          replace hO48 : w89[134]? = (some (q 134, .inr (14, [.int t0_0, .ref (q 135), .int t0_1, .ref (q 136), .ref (q 137), .ref (q 138), .ref (q 139), .ref (q 140), .int a87, .long t0_3, .int t0_4, .int t0_5, .ref (q 141), .int t0_6, .ref (q 142), .int t0_7, .ref (q 143), .int t0_8, .ref (q 144), .int t0_9, .int t0_10])) : Option (Nat × va_E)) := hO48
          replace hI := n_p134 hI hu90 hO48 (by first | with_reducible exact q_fe btt0_1 | exact ⟨(by have t1 : 0 ≤ t0_1.toInt ∧ t0_1.toInt ≤ 4100 := btt0_1; omega), (by have t1 : 0 ≤ t0_1.toInt ∧ t0_1.toInt ≤ 4100 := btt0_1; omega)⟩) (by first | with_reducible exact q_fe btt0_4 | exact ⟨(by have t1 : 0 ≤ t0_4.toInt ∧ t0_4.toInt ≤ 1 := btt0_4; omega), (by have t1 : 0 ≤ t0_4.toInt ∧ t0_4.toInt ≤ 1 := btt0_4; omega)⟩) (by first | with_reducible exact q_fe btt0_5 | exact ⟨(by have t1 : 0 ≤ t0_5.toInt ∧ t0_5.toInt ≤ 1 := btt0_5; omega), (by have t1 : 0 ≤ t0_5.toInt ∧ t0_5.toInt ≤ 1 := btt0_5; omega)⟩) (by first | with_reducible exact q_fe btt0_9 | exact ⟨(by have t1 : 0 ≤ t0_9.toInt ∧ t0_9.toInt ≤ 12200 := btt0_9; omega), (by have t1 : 0 ≤ t0_9.toInt ∧ t0_9.toInt ≤ 12200 := btt0_9; omega)⟩)
          replace hO49 := (hu90 _ (by decide)).trans hO49
          replace hF := q_us hF hu90 (by simp)
          exact J64 ((a87 : Int32), (lx43 : (Nat → Int32))) _ _ _ _ ⟨V, q_lw hl (q_lw1 2 rfl q_lw0), hI, hF, hO48, hO49, (show F_DR_trim_J91 (F_DR_trim_L2 t0_0 t0_1 t0_2 t0_3 t0_4 t0_5 t0_6 t0_7 t0_8 t0_9 t0_10 t1_0 fm29) (F_DR_trim_L29 (F_DR_trim_L2 t0_0 t0_1 t0_2 t0_3 t0_4 t0_5 t0_6 t0_7 t0_8 t0_9 t0_10 t1_0 fm29) t0_0 t0_1 t0_2 t0_3 t0_4 t0_5 t0_6 t0_7 t0_8 t0_9 t0_10 t1_0 lx21 fm54) t0_0 t0_1 t0_2 t0_3 t0_4 t0_5 t0_6 t0_7 t0_8 t0_9 t0_10 t1_0 lx21 lx42 lx43 a87 lx43 = (F_DR_trim t0_0 t0_1 t0_2 t0_3 t0_4 t0_5 t0_6 t0_7 t0_8 t0_9 t0_10 t1_0) from Eq.trans (by have c58x := c58; rw [← e56] at c58x; rw [← e88, F_DR_trim_L29.eq_2, if_pos c58x, if_neg c85]) hR50), (show True ∧ S_DR_trim_J91 (S_DR_trim_L2 t0_0 t0_1 t0_2 t0_3 t0_4 t0_5 t0_6 t0_7 t0_8 t0_9 t0_10 t1_0 fm29) (S_DR_trim_L29 (S_DR_trim_L2 t0_0 t0_1 t0_2 t0_3 t0_4 t0_5 t0_6 t0_7 t0_8 t0_9 t0_10 t1_0 fm29) t0_0 t0_1 t0_2 t0_3 t0_4 t0_5 t0_6 t0_7 t0_8 t0_9 t0_10 t1_0 lx21 fm54) t0_0 t0_1 t0_2 t0_3 t0_4 t0_5 t0_6 t0_7 t0_8 t0_9 t0_10 t1_0 lx21 lx42 lx43 a87 lx43 from (by rw [← e88]; have h := hS51; rw [S_DR_trim_L29.eq_2] at h; have c58x := c58; rw [← e56] at c58x; rw [if_pos c58x] at h; rw [if_neg c85] at h; with_reducible exact h))⟩
        ·
          refine lv_aload_n hx hb d_15_7_66 rfl (lv_at hl 2 rfl) ?_
          refine q_get (ci := 14) (j := 7) (v := .ref (q 140)) C0 V i_DR rfl rfl hO48 (by decide) w_2010 rfl d_15_7_67 ?_
          refine lv_iconst (v := 0) hx hb d_15_7_70 (by decide) ?_
          refine lv_iconst (v := 0) hx hb d_15_7_71 (by decide) ?_
          refine q_iast C0 V hO49 (q_ix (x := 0) (by decide) (by omega) (by have e9 : (((4400 : Int32).toNatClampNeg : Nat) : Int) = 4400 := (by decide); omega)) d_15_7_72 (fun H locs w92 hu93 hO49 V => ?_)
          replace hI := n_ai' hI (n_r140 g q).1 hu93 hO49 (q_updB (fun _ => s_bnd) s_bnd)
          replace hO48 := (hu93 _ (by decide)).trans hO48
          replace hF := q_us hF hu93 (by simp)
          obtain ⟨f94, e95⟩ := q_nm (upd lx43 (0 : Int32).toNatClampNeg 0 : (Nat → Int32))
          rw [e95] at hO49
          refine lv_aload_n hx hb d_15_7_73 rfl (lv_at hl 2 rfl) ?_
          refine lv_iconst (v := 1) hx hb d_15_7_74 (by decide) ?_
          refine q_put (ci := 14) (j := 8) (v := .int 1) (ty := .int) C0 V i_DR o_DR n_DR rfl rfl hO48 (by decide) w_2011 rfl rfl rfl rfl (Nat.le_of_ble_eq_true rfl) d_15_7_75 (fun H locs w96 hu97 hO48 V => ?_)
          replace hO48 : w96[134]? = (some (q 134, .inr (14, [.int t0_0, .ref (q 135), .int t0_1, .ref (q 136), .ref (q 137), .ref (q 138), .ref (q 139), .ref (q 140), .int 1, .long t0_3, .int t0_4, .int t0_5, .ref (q 141), .int t0_6, .ref (q 142), .int t0_7, .ref (q 143), .int t0_8, .ref (q 144), .int t0_9, .int t0_10])) : Option (Nat × va_E)) := hO48
          replace hI := n_p134 hI hu97 hO48 (by first | with_reducible exact q_fe btt0_1 | exact ⟨(by have t1 : 0 ≤ t0_1.toInt ∧ t0_1.toInt ≤ 4100 := btt0_1; omega), (by have t1 : 0 ≤ t0_1.toInt ∧ t0_1.toInt ≤ 4100 := btt0_1; omega)⟩) (by first | with_reducible exact q_fe btt0_4 | exact ⟨(by have t1 : 0 ≤ t0_4.toInt ∧ t0_4.toInt ≤ 1 := btt0_4; omega), (by have t1 : 0 ≤ t0_4.toInt ∧ t0_4.toInt ≤ 1 := btt0_4; omega)⟩) (by first | with_reducible exact q_fe btt0_5 | exact ⟨(by have t1 : 0 ≤ t0_5.toInt ∧ t0_5.toInt ≤ 1 := btt0_5; omega), (by have t1 : 0 ≤ t0_5.toInt ∧ t0_5.toInt ≤ 1 := btt0_5; omega)⟩) (by first | with_reducible exact q_fe btt0_9 | exact ⟨(by have t1 : 0 ≤ t0_9.toInt ∧ t0_9.toInt ≤ 12200 := btt0_9; omega), (by have t1 : 0 ≤ t0_9.toInt ∧ t0_9.toInt ≤ 12200 := btt0_9; omega)⟩)
          replace hO49 := (hu97 _ (by decide)).trans hO49
          replace hF := q_us hF hu97 (by simp)
          refine lv_goto (tgt := 91) hx hb d_15_7_78 (by decide) ?_
          exact J64 ((1 : Int32), (f94 : (Nat → Int32))) _ _ _ _ ⟨V, q_lw hl (q_lw1 2 rfl q_lw0), hI, hF, hO48, hO49, (show F_DR_trim_J91 (F_DR_trim_L2 t0_0 t0_1 t0_2 t0_3 t0_4 t0_5 t0_6 t0_7 t0_8 t0_9 t0_10 t1_0 fm29) (F_DR_trim_L29 (F_DR_trim_L2 t0_0 t0_1 t0_2 t0_3 t0_4 t0_5 t0_6 t0_7 t0_8 t0_9 t0_10 t1_0 fm29) t0_0 t0_1 t0_2 t0_3 t0_4 t0_5 t0_6 t0_7 t0_8 t0_9 t0_10 t1_0 lx21 fm54) t0_0 t0_1 t0_2 t0_3 t0_4 t0_5 t0_6 t0_7 t0_8 t0_9 t0_10 t1_0 lx21 lx42 lx43 1 f94 = (F_DR_trim t0_0 t0_1 t0_2 t0_3 t0_4 t0_5 t0_6 t0_7 t0_8 t0_9 t0_10 t1_0) from Eq.trans (by have c58x := c58; rw [← e56] at c58x; rw [← e95, F_DR_trim_L29.eq_2, if_pos c58x, if_pos c85]) hR50), (show True ∧ S_DR_trim_J91 (S_DR_trim_L2 t0_0 t0_1 t0_2 t0_3 t0_4 t0_5 t0_6 t0_7 t0_8 t0_9 t0_10 t1_0 fm29) (S_DR_trim_L29 (S_DR_trim_L2 t0_0 t0_1 t0_2 t0_3 t0_4 t0_5 t0_6 t0_7 t0_8 t0_9 t0_10 t1_0 fm29) t0_0 t0_1 t0_2 t0_3 t0_4 t0_5 t0_6 t0_7 t0_8 t0_9 t0_10 t1_0 lx21 fm54) t0_0 t0_1 t0_2 t0_3 t0_4 t0_5 t0_6 t0_7 t0_8 t0_9 t0_10 t1_0 lx21 lx42 lx43 1 f94 from (by rw [← e95]; have h := hS51; rw [S_DR_trim_L29.eq_2] at h; have c58x := c58; rw [← e56] at c58x; rw [if_pos c58x] at h; rw [if_pos c85] at h; with_reducible exact h))⟩
    ·
      refine lv_aload_n hx hb d_15_7_39 rfl (lv_at hl 2 rfl) ?_
      refine q_get (ci := 14) (j := 7) (v := .ref (q 140)) C0 V i_DR rfl rfl hO48 (by decide) w_2010 rfl d_15_7_40 ?_
      refine lv_iload_n hx hb d_15_7_43 rfl (lv_at hl 0 rfl) ?_
      refine lv_aload_n hx hb d_15_7_44 rfl (lv_at hl 2 rfl) ?_
      refine q_get (ci := 14) (j := 7) (v := .ref (q 140)) C0 V i_DR rfl rfl hO48 (by decide) w_2010 rfl d_15_7_45 ?_
      refine lv_iload_n hx hb d_15_7_48 rfl (lv_at hl 0 rfl) ?_
      refine lv_iload_n hx hb d_15_7_49 rfl (lv_at hl 1 rfl) ?_
      refine lv_iadd hx hb d_15_7_50 ?_
      obtain ⟨a99, e100⟩ := q_nm (lx42 + lx21 : Int32)
      refine q_ti (v := a99) e100 ?_
      have b101 : q_F (a99.toInt = lx42.toInt + lx21.toInt) := (by rw [← e100]; show (lx42 + lx21 : Int32).toInt = lx42.toInt + lx21.toInt; exact q_addI (x := lx42.toInt) (y := lx21.toInt) rfl rfl (by have t1 : 0 ≤ lx21.toInt := i22; have t2 : 0 ≤ lx42.toInt := i44; have t3 : lx21.toInt ≤ 12200 := i23; have t4 : lx42.toInt ≤ 12200 := i45; omega) (by have t1 : 0 ≤ lx21.toInt := i22; have t2 : 0 ≤ lx42.toInt := i44; have t3 : lx21.toInt ≤ 12200 := i23; have t4 : lx42.toInt ≤ 12200 := i45; omega))
      have ob102 : q_F (a99.toInt ≤ 4399) := (by rw [← e100]; have h := hS51; rw [S_DR_trim_L29.eq_2] at h; have c58x := c58; rw [← e56] at c58x; rw [if_neg c58x] at h; exact h.2.1)
      refine q_iald C0 V hO49 (q_ix (x := a99.toInt) rfl (by have t1 : 0 ≤ lx21.toInt := i22; have t2 : 0 ≤ lx42.toInt := i44; have t3 : a99.toInt = lx42.toInt + lx21.toInt := b101; omega) (by have t1 : 0 ≤ lx21.toInt := i22; have t2 : 0 ≤ lx42.toInt := i44; have t3 : a99.toInt = lx42.toInt + lx21.toInt := b101; have t4 : a99.toInt ≤ 4399 := ob102; have e9 : (((4400 : Int32).toNatClampNeg : Nat) : Int) = 4400 := (by decide); omega)) d_15_7_51 ?_
      obtain ⟨a103, e104⟩ := q_nm (lx43 a99.toNatClampNeg : Int32)
      refine q_ti (v := a103) e104 ?_
      refine q_iast C0 V hO49 (q_ix (x := lx42.toInt) rfl (by first | with_reducible exact q_fe i44 | (have t1 : 0 ≤ lx42.toInt := i44; omega)) (by have t1 : 0 ≤ lx42.toInt := i44; have t2 : 0 ≤ lx21.toInt := i22; have t3 : a99.toInt = lx42.toInt + lx21.toInt := b101; have t4 : a99.toInt ≤ 4399 := ob102; have e9 : (((4400 : Int32).toNatClampNeg : Nat) : Int) = 4400 := (by decide); omega)) d_15_7_52 (fun H locs w105 hu106 hO49 V => ?_)
      replace hI := n_ai' hI (n_r140 g q).1 hu106 hO49 (q_updB (fun _ => s_bnd) s_bnd)
      replace hO48 := (hu106 _ (by decide)).trans hO48
      replace hF := q_us hF hu106 (by simp)
      obtain ⟨f107, e108⟩ := q_nm (upd lx43 lx42.toNatClampNeg a103 : (Nat → Int32))
      rw [e108] at hO49
      obtain ⟨a109, e110⟩ := q_nm (lx42 + 1 : Int32)
      have b111 : q_F (a109.toInt = lx42.toInt + 1) := (by rw [← e110]; exact q_addI (y := 1) rfl (by decide) (by have t1 : 0 ≤ lx42.toInt := i44; have t2 : lx42.toInt ≤ 12200 := i45; omega) (by have t1 : 0 ≤ lx42.toInt := i44; have t2 : lx42.toInt ≤ 12200 := i45; omega))
      refine lv_iinc (v := a109) (lv' := [(2, .int a109), (1, .int lx21), (0, .ref (q 134))]) hx hb d_15_7_53 hl (k := 0) rfl (e110) (by decide) rfl (fun ls hl => ?_)
      refine lv_goto (tgt := 29) hx hb d_15_7_56 (by decide) ?_
      exact ih46 ((a109 : Int32), (f107 : (Nat → Int32))) _ _ _ _ (show (12200 - a109.toInt).toNat < (12200 - lx42.toInt).toNat from by have t1 : a109.toInt = lx42.toInt + 1 := b111; have t2 : lx42.toInt ≤ 12200 := i45; have t3 : 0 ≤ lx21.toInt := i22; have t4 : a99.toInt = lx42.toInt + lx21.toInt := b101; have t5 : a99.toInt ≤ 4399 := ob102; omega) ⟨(show q_F (0 ≤ a109.toInt) from (show 0 ≤ a109.toInt from by have t1 : 0 ≤ lx42.toInt := i44; have t2 : a109.toInt = lx42.toInt + 1 := b111; omega)), (show q_F (a109.toInt ≤ 12200) from (show a109.toInt ≤ 12200 from by have t1 : 0 ≤ lx21.toInt := i22; have t2 : a99.toInt = lx42.toInt + lx21.toInt := b101; have t3 : a99.toInt ≤ 4399 := ob102; have t4 : a109.toInt = lx42.toInt + 1 := b111; omega)), V, q_lw hl (q_lw1 0 rfl (q_lw1 1 rfl (q_lw1 2 rfl q_lw0))), hI, hF, hO48, hO49, ⟨fm54, Nat.lt_of_lt_of_le (show (12200 - a109.toInt).toNat < (12200 - lx42.toInt).toNat from by have t1 : a109.toInt = lx42.toInt + 1 := b111; have t2 : lx42.toInt ≤ 12200 := i45; have t3 : 0 ≤ lx21.toInt := i22; have t4 : a99.toInt = lx42.toInt + lx21.toInt := b101; have t5 : a99.toInt ≤ 4399 := ob102; omega) (Nat.le_of_lt_succ hf53), (show F_DR_trim_L29 (F_DR_trim_L2 t0_0 t0_1 t0_2 t0_3 t0_4 t0_5 t0_6 t0_7 t0_8 t0_9 t0_10 t1_0 fm29) t0_0 t0_1 t0_2 t0_3 t0_4 t0_5 t0_6 t0_7 t0_8 t0_9 t0_10 t1_0 lx21 fm54 a109 f107 = (F_DR_trim t0_0 t0_1 t0_2 t0_3 t0_4 t0_5 t0_6 t0_7 t0_8 t0_9 t0_10 t1_0) from Eq.trans (by have c58x := c58; rw [← e56] at c58x; rw [← e110, ← e108, ← e104, ← e100, F_DR_trim_L29.eq_2, if_neg c58x]) hR50), (show True ∧ S_DR_trim_L29 (S_DR_trim_L2 t0_0 t0_1 t0_2 t0_3 t0_4 t0_5 t0_6 t0_7 t0_8 t0_9 t0_10 t1_0 fm29) t0_0 t0_1 t0_2 t0_3 t0_4 t0_5 t0_6 t0_7 t0_8 t0_9 t0_10 t1_0 lx21 fm54 a109 f107 from (by rw [← e110, ← e108, ← e104, ← e100]; have h := hS51; rw [S_DR_trim_L29.eq_2] at h; have c58x := c58; rw [← e56] at c58x; rw [if_neg c58x] at h; replace h := q_s2 h; with_reducible exact h))⟩⟩
  ·
    intro J35
    refine lv_icmp_ge (tgt := 27) hx hb d_15_7_9 (by decide) (fun c112 => ?_) (fun c112 => ?_)
    ·
      exact J35 (()) _ _ _ ws ⟨V, q_lw hl (q_lw1 0 rfl (q_lw1 1 rfl q_lw0)), (show F_DR_trim_J27 (F_DR_trim_L2 t0_0 t0_1 t0_2 t0_3 t0_4 t0_5 t0_6 t0_7 t0_8 t0_9 t0_10 t1_0 fm29) t0_0 t0_1 t0_2 t0_3 t0_4 t0_5 t0_6 t0_7 t0_8 t0_9 t0_10 t1_0 lx21 = (F_DR_trim t0_0 t0_1 t0_2 t0_3 t0_4 t0_5 t0_6 t0_7 t0_8 t0_9 t0_10 t1_0) from Eq.trans (by have c112x := c112; rw [← e31] at c112x; rw [F_DR_trim_L2.eq_2, if_pos c112x]) hR25), (show True ∧ S_DR_trim_J27 (S_DR_trim_L2 t0_0 t0_1 t0_2 t0_3 t0_4 t0_5 t0_6 t0_7 t0_8 t0_9 t0_10 t1_0 fm29) t0_0 t0_1 t0_2 t0_3 t0_4 t0_5 t0_6 t0_7 t0_8 t0_9 t0_10 t1_0 lx21 from (by have h := hS26; rw [S_DR_trim_L2.eq_2] at h; have c112x := c112; rw [← e31] at c112x; rw [if_pos c112x] at h; with_reducible exact h))⟩
    ·
      refine lv_aload_n hx hb d_15_7_12 rfl (lv_at hl 1 rfl) ?_
      refine q_get (ci := 14) (j := 7) (v := .ref (q 140)) C0 V i_DR rfl rfl hT0 (by decide) w_2010 rfl d_15_7_13 ?_
      refine lv_iload_n hx hb d_15_7_16 rfl (lv_at hl 0 rfl) ?_
      have ob115 : q_F (lx21.toInt ≤ 4399) := (by have h := hS26; rw [S_DR_trim_L2.eq_2] at h; have c112x := c112; rw [← e31] at c112x; rw [if_neg c112x] at h; exact h.2.1)
      refine q_iald C0 V hT1 (q_ix (x := lx21.toInt) rfl (by first | with_reducible exact q_fe i22 | (have t1 : 0 ≤ lx21.toInt := i22; omega)) (by have t1 : 0 ≤ lx21.toInt := i22; have t2 : lx21.toInt ≤ 4399 := ob115; have e9 : (((4400 : Int32).toNatClampNeg : Nat) : Int) = 4400 := (by decide); omega)) d_15_7_17 ?_
      obtain ⟨a116, e117⟩ := q_nm (t1_0 lx21.toNatClampNeg : Int32)
      refine q_ti (v := a116) e117 ?_
      refine lv_if_ne (tgt := 27) hx hb d_15_7_18 (by decide) (fun c118 => ?_) (fun c118 => ?_)
      ·
        exact J35 (()) _ _ _ ws ⟨V, q_lw hl (q_lw1 0 rfl (q_lw1 1 rfl q_lw0)), (show F_DR_trim_J27 (F_DR_trim_L2 t0_0 t0_1 t0_2 t0_3 t0_4 t0_5 t0_6 t0_7 t0_8 t0_9 t0_10 t1_0 fm29) t0_0 t0_1 t0_2 t0_3 t0_4 t0_5 t0_6 t0_7 t0_8 t0_9 t0_10 t1_0 lx21 = (F_DR_trim t0_0 t0_1 t0_2 t0_3 t0_4 t0_5 t0_6 t0_7 t0_8 t0_9 t0_10 t1_0) from Eq.trans (by have c112x := c112; rw [← e31] at c112x; have c118x := c118; rw [← e117] at c118x; rw [F_DR_trim_L2.eq_2, if_neg c112x, if_neg c118x]) hR25), (show True ∧ S_DR_trim_J27 (S_DR_trim_L2 t0_0 t0_1 t0_2 t0_3 t0_4 t0_5 t0_6 t0_7 t0_8 t0_9 t0_10 t1_0 fm29) t0_0 t0_1 t0_2 t0_3 t0_4 t0_5 t0_6 t0_7 t0_8 t0_9 t0_10 t1_0 lx21 from (by have h := hS26; rw [S_DR_trim_L2.eq_2] at h; have c112x := c112; rw [← e31] at c112x; rw [if_neg c112x] at h; replace h := q_s2 h; have c118x := c118; rw [← e117] at c118x; rw [if_neg c118x] at h; with_reducible exact h))⟩
      ·
        obtain ⟨a121, e122⟩ := q_nm (lx21 + 1 : Int32)
        have b123 : q_F (a121.toInt = lx21.toInt + 1) := (by rw [← e122]; exact q_addI (y := 1) rfl (by decide) (by have t1 : 0 ≤ lx21.toInt := i22; have t2 : lx21.toInt ≤ 12200 := i23; omega) (by have t1 : 0 ≤ lx21.toInt := i22; have t2 : lx21.toInt ≤ 12200 := i23; omega))
        refine lv_iinc (v := a121) (lv' := [(1, .int a121), (0, .ref (q 134))]) hx hb d_15_7_21 hl (k := 0) rfl (e122) (by decide) rfl (fun ls hl => ?_)
        refine lv_goto (tgt := 2) hx hb d_15_7_24 (by decide) ?_
        exact ih24 ((a121 : Int32)) _ _ _ ws (show (12200 - a121.toInt).toNat < (12200 - lx21.toInt).toNat from by have t1 : a121.toInt = lx21.toInt + 1 := b123; have t2 : lx21.toInt ≤ 12200 := i23; have t3 : lx21.toInt ≤ 4399 := ob115; omega) ⟨(show q_F (0 ≤ a121.toInt) from (show 0 ≤ a121.toInt from by have t1 : 0 ≤ lx21.toInt := i22; have t2 : a121.toInt = lx21.toInt + 1 := b123; omega)), (show q_F (a121.toInt ≤ 12200) from (show a121.toInt ≤ 12200 from by have t1 : lx21.toInt ≤ 4399 := ob115; have t2 : a121.toInt = lx21.toInt + 1 := b123; omega)), V, q_lw hl (q_lw1 0 rfl (q_lw1 1 rfl q_lw0)), ⟨fm29, Nat.lt_of_lt_of_le (show (12200 - a121.toInt).toNat < (12200 - lx21.toInt).toNat from by have t1 : a121.toInt = lx21.toInt + 1 := b123; have t2 : lx21.toInt ≤ 12200 := i23; have t3 : lx21.toInt ≤ 4399 := ob115; omega) (Nat.le_of_lt_succ hf28), (show F_DR_trim_L2 t0_0 t0_1 t0_2 t0_3 t0_4 t0_5 t0_6 t0_7 t0_8 t0_9 t0_10 t1_0 fm29 a121 = (F_DR_trim t0_0 t0_1 t0_2 t0_3 t0_4 t0_5 t0_6 t0_7 t0_8 t0_9 t0_10 t1_0) from Eq.trans (by have c112x := c112; rw [← e31] at c112x; have c118x := c118; rw [← e117] at c118x; rw [← e122, F_DR_trim_L2.eq_2, if_neg c112x, if_pos c118x]) hR25), (show True ∧ S_DR_trim_L2 t0_0 t0_1 t0_2 t0_3 t0_4 t0_5 t0_6 t0_7 t0_8 t0_9 t0_10 t1_0 fm29 a121 from (by rw [← e122]; have h := hS26; rw [S_DR_trim_L2.eq_2] at h; have c112x := c112; rw [← e31] at c112x; rw [if_neg c112x] at h; replace h := q_s2 h; have c118x := c118; rw [← e117] at c118x; rw [if_pos c118x] at h; with_reducible exact h))⟩⟩
theorem d_15_8_0 : decode prog_15_method_8_code 0 = .ok (.aload_n 0, 1) := by decide +kernel
theorem d_15_8_1 : decode prog_15_method_8_code 1 = .ok (.invokevirtual 59, 3) := by decide +kernel
set_option maxRecDepth 100000 in
theorem w_2416 : (Cond.code ({ cls := "NumberHouseModel$DecimalRows", name := "trim", desc := "()V" } : MethodName) prog_15_method_7_code (3 : Nat) (none : Option ClassFile.FieldType)) ∈ q_tbl := q_of11 16 rfl (by decide +kernel)
set_option maxRecDepth 100000 in
theorem w_2413 : (Cond.methodLink "NumberHouseModel$DecimalRows" (59 : Nat) ({ cls := "NumberHouseModel$DecimalRows", name := "trim", desc := "()V" } : MethodName)) ∈ q_tbl := q_of11 13 rfl (by decide +kernel)
set_option maxRecDepth 100000 in
theorem w_2415 : (Cond.instanceMethod ({ cls := "NumberHouseModel$DecimalRows", name := "trim", desc := "()V" } : MethodName)) ∈ q_tbl := q_of11 15 rfl (by decide +kernel)
theorem ws_64 : Cond.selects "NumberHouseModel$DecimalRows" (⟨"NumberHouseModel$DecimalRows", "trim", "()V"⟩ : MethodName) (⟨"NumberHouseModel$DecimalRows", "trim", "()V"⟩ : MethodName) ∈ q_tbl := q_ofs 64 (by decide +kernel) (by decide +kernel)
theorem LV_DR_59 : q_LV "NumberHouseModel$DecimalRows" 59 y_DR_trim prog_15_method_7_code 3 none 0 := ⟨w_2416, w_16, w_2413, w_2415, ws_64, ⟨by decide, by decide, by decide +kernel⟩⟩
theorem d_15_8_4 : decode prog_15_method_8_code 4 = .ok (.aload_n 0, 1) := by decide +kernel
theorem d_15_8_5 : decode prog_15_method_8_code 5 = .ok (.getfield 45, 3) := by decide +kernel
theorem d_15_8_8 : decode prog_15_method_8_code 8 = .ok (.sipush 1000, 3) := by decide +kernel
theorem d_15_8_11 : decode prog_15_method_8_code 11 = .ok (.if_icmp .gt 25, 3) := by decide +kernel
theorem d_15_8_36 : decode prog_15_method_8_code 36 = .ok (.aload_n 0, 1) := by decide +kernel
theorem d_15_8_37 : decode prog_15_method_8_code 37 = .ok (.aload_n 0, 1) := by decide +kernel
theorem d_15_8_38 : decode prog_15_method_8_code 38 = .ok (.getfield 66, 3) := by decide +kernel
set_option maxRecDepth 100000 in
theorem w_2024 : (Cond.fieldLink "NumberHouseModel$DecimalRows" (66 : Nat) "NumberHouseModel$DecimalRows" "fault" "I") ∈ q_tbl := q_of9 104 rfl (by decide +kernel)
theorem d_15_8_41 : decode prog_15_method_8_code 41 = .ok (.putfield 41, 3) := by decide +kernel
set_option maxRecDepth 100000 in
theorem w_1996 : (Cond.fieldLink "NumberHouseModel$DecimalRows" (41 : Nat) "NumberHouseModel$DecimalRows" "thrown" "I") ∈ q_tbl := q_of9 76 rfl (by decide +kernel)
theorem d_15_8_44 : decode prog_15_method_8_code 44 = .ok (.return_, 1) := by decide +kernel
theorem d_15_8_14 : decode prog_15_method_8_code 14 = .ok (.aload_n 0, 1) := by decide +kernel
theorem d_15_8_15 : decode prog_15_method_8_code 15 = .ok (.getfield 48, 3) := by decide +kernel
theorem d_15_8_18 : decode prog_15_method_8_code 18 = .ok (.ldc2_w 62, 3) := by decide +kernel
set_option maxRecDepth 100000 in
theorem w_2417 : (Cond.constantLong "NumberHouseModel$DecimalRows" (62 : Nat) (-10000 : Int64)) ∈ q_tbl := q_of11 17 rfl (by decide +kernel)
theorem d_15_8_21 : decode prog_15_method_8_code 21 = .ok (.lcmp, 1) := by decide +kernel
theorem d_15_8_22 : decode prog_15_method_8_code 22 = .ok (.ifCond .lt 14, 3) := by decide +kernel
theorem d_15_8_25 : decode prog_15_method_8_code 25 = .ok (.aload_n 0, 1) := by decide +kernel
theorem d_15_8_26 : decode prog_15_method_8_code 26 = .ok (.getfield 48, 3) := by decide +kernel
theorem d_15_8_29 : decode prog_15_method_8_code 29 = .ok (.ldc2_w 64, 3) := by decide +kernel
set_option maxRecDepth 100000 in
theorem w_2418 : (Cond.constantLong "NumberHouseModel$DecimalRows" (64 : Nat) (10000 : Int64)) ∈ q_tbl := q_of11 18 rfl (by decide +kernel)
theorem d_15_8_32 : decode prog_15_method_8_code 32 = .ok (.lcmp, 1) := by decide +kernel
theorem d_15_8_33 : decode prog_15_method_8_code 33 = .ok (.ifCond .le 12, 3) := by decide +kernel
theorem d_15_8_45 : decode prog_15_method_8_code 45 = .ok (.iconst 0, 1) := by decide +kernel
theorem d_15_8_46 : decode prog_15_method_8_code 46 = .ok (.istore_n 2, 1) := by decide +kernel
theorem d_15_8_47 : decode prog_15_method_8_code 47 = .ok (.iload_n 2, 1) := by decide +kernel
theorem d_15_8_48 : decode prog_15_method_8_code 48 = .ok (.aload_n 0, 1) := by decide +kernel
theorem d_15_8_49 : decode prog_15_method_8_code 49 = .ok (.getfield 45, 3) := by decide +kernel
theorem d_15_8_52 : decode prog_15_method_8_code 52 = .ok (.if_icmp .ge 27, 3) := by decide +kernel
theorem d_15_8_79 : decode prog_15_method_8_code 79 = .ok (.aload_n 0, 1) := by decide +kernel
theorem d_15_8_80 : decode prog_15_method_8_code 80 = .ok (.getfield 16, 3) := by decide +kernel
theorem d_15_8_83 : decode prog_15_method_8_code 83 = .ok (.iload_n 1, 1) := by decide +kernel
theorem d_15_8_84 : decode prog_15_method_8_code 84 = .ok (.aload_n 0, 1) := by decide +kernel
theorem d_15_8_85 : decode prog_15_method_8_code 85 = .ok (.getfield 45, 3) := by decide +kernel
theorem d_15_8_88 : decode prog_15_method_8_code 88 = .ok (.iastore, 1) := by decide +kernel
theorem d_15_8_89 : decode prog_15_method_8_code 89 = .ok (.aload_n 0, 1) := by decide +kernel
theorem d_15_8_90 : decode prog_15_method_8_code 90 = .ok (.getfield 19, 3) := by decide +kernel
theorem d_15_8_93 : decode prog_15_method_8_code 93 = .ok (.iload_n 1, 1) := by decide +kernel
theorem d_15_8_94 : decode prog_15_method_8_code 94 = .ok (.aload_n 0, 1) := by decide +kernel
theorem d_15_8_95 : decode prog_15_method_8_code 95 = .ok (.getfield 56, 3) := by decide +kernel
theorem d_15_8_98 : decode prog_15_method_8_code 98 = .ok (.bastore, 1) := by decide +kernel
theorem d_15_8_99 : decode prog_15_method_8_code 99 = .ok (.aload_n 0, 1) := by decide +kernel
theorem d_15_8_100 : decode prog_15_method_8_code 100 = .ok (.getfield 23, 3) := by decide +kernel
theorem d_15_8_103 : decode prog_15_method_8_code 103 = .ok (.iload_n 1, 1) := by decide +kernel
theorem d_15_8_104 : decode prog_15_method_8_code 104 = .ok (.aload_n 0, 1) := by decide +kernel
theorem d_15_8_105 : decode prog_15_method_8_code 105 = .ok (.getfield 48, 3) := by decide +kernel
theorem d_15_8_108 : decode prog_15_method_8_code 108 = .ok (.l2i, 1) := by decide +kernel
theorem d_15_8_109 : decode prog_15_method_8_code 109 = .ok (.iastore, 1) := by decide +kernel
theorem d_15_8_110 : decode prog_15_method_8_code 110 = .ok (.return_, 1) := by decide +kernel
theorem d_15_8_55 : decode prog_15_method_8_code 55 = .ok (.aload_n 0, 1) := by decide +kernel
theorem d_15_8_56 : decode prog_15_method_8_code 56 = .ok (.getfield 13, 3) := by decide +kernel
theorem d_15_8_59 : decode prog_15_method_8_code 59 = .ok (.sipush 1000, 3) := by decide +kernel
theorem d_15_8_62 : decode prog_15_method_8_code 62 = .ok (.iload_n 1, 1) := by decide +kernel
theorem d_15_8_63 : decode prog_15_method_8_code 63 = .ok (.imul, 1) := by decide +kernel
theorem d_15_8_64 : decode prog_15_method_8_code 64 = .ok (.iload_n 2, 1) := by decide +kernel
theorem d_15_8_65 : decode prog_15_method_8_code 65 = .ok (.iadd, 1) := by decide +kernel
theorem d_15_8_66 : decode prog_15_method_8_code 66 = .ok (.aload_n 0, 1) := by decide +kernel
theorem d_15_8_67 : decode prog_15_method_8_code 67 = .ok (.getfield 26, 3) := by decide +kernel
theorem d_15_8_70 : decode prog_15_method_8_code 70 = .ok (.iload_n 2, 1) := by decide +kernel
theorem d_15_8_71 : decode prog_15_method_8_code 71 = .ok (.iaload, 1) := by decide +kernel
theorem d_15_8_72 : decode prog_15_method_8_code 72 = .ok (.iastore, 1) := by decide +kernel
theorem d_15_8_73 : decode prog_15_method_8_code 73 = .ok (.iinc 2 1, 3) := by decide +kernel
theorem d_15_8_76 : decode prog_15_method_8_code 76 = .ok (.goto (-29), 3) := by decide +kernel
def y_DR_store : MethodName := ⟨"NumberHouseModel$DecimalRows", "store", "(I)V"⟩
def F_DR_store_L47 (x2 : Int32) (t0_0 : Int32) (t0_1 : Int32) (t0_2 : Int32) (t0_3 : Int64) (t0_4 : Int32) (t0_5 : Int32) (t0_6 : Int32) (t0_7 : Int32) (t0_8 : Int32) (t0_9 : Int32) (t0_10 : Int32) (t1_0 : (Nat → Int32)) (t2_0 : (Nat → Int32)) (t3_0 : (Nat → Int32)) (t4_0 : (Nat → Int32)) (t5_0 : (Nat → Int32)) (p75 : (Int32 × Int32 × Int32 × Int64 × Int32 × Int32 × Int32 × Int32 × Int32 × Int32 × Int32 × (Nat → Int32))) (y36 : Int32) (y37 : Int32) (y38 : Int32) (y39 : Int64) (y40 : Int32) (y41 : Int32) (y42 : Int32) (y43 : Int32) (y44 : Int32) (y45 : Int32) (y46 : Int32) (f47 : (Nat → Int32)) : Nat → Int32 → (Nat → Int32) → (Int32 × Int32 × Int32 × Int64 × Int32 × Int32 × Int32 × Int32 × Int32 × Int32 × Int32 × (Nat → Int32) × (Nat → Int32) × (Nat → Int32) × (Nat → Int32) × (Nat → Int32))
  | 0, _, _ => default
  | fm + 1, lx113, lx114 => if y38 ≤ lx113 then ((y36, y37, y38, y39, y40, y41, y42, y43, y44, y45, y46, lx114, (upd t2_0 x2.toNatClampNeg y38 : (Nat → Int32)), (upd t3_0 x2.toNatClampNeg (vp_nar .boolean y41) : (Nat → Int32)), (upd t4_0 x2.toNatClampNeg (y39.toInt32 : Int32) : (Nat → Int32)), f47)) else (F_DR_store_L47 x2 t0_0 t0_1 t0_2 t0_3 t0_4 t0_5 t0_6 t0_7 t0_8 t0_9 t0_10 t1_0 t2_0 t3_0 t4_0 t5_0 p75 y36 y37 y38 y39 y40 y41 y42 y43 y44 y45 y46 f47 fm (lx113 + 1 : Int32) (upd lx114 ((1000 * x2 : Int32) + lx113 : Int32).toNatClampNeg (f47 lx113.toNatClampNeg : Int32) : (Nat → Int32)))
def F_DR_store_c1 (x2 : Int32) (t0_0 : Int32) (t0_1 : Int32) (t0_2 : Int32) (t0_3 : Int64) (t0_4 : Int32) (t0_5 : Int32) (t0_6 : Int32) (t0_7 : Int32) (t0_8 : Int32) (t0_9 : Int32) (t0_10 : Int32) (t1_0 : (Nat → Int32)) (t2_0 : (Nat → Int32)) (t3_0 : (Nat → Int32)) (t4_0 : (Nat → Int32)) (t5_0 : (Nat → Int32)) (p75 : (Int32 × Int32 × Int32 × Int64 × Int32 × Int32 × Int32 × Int32 × Int32 × Int32 × Int32 × (Nat → Int32))) : Int32 × Int32 × Int32 × Int64 × Int32 × Int32 × Int32 × Int32 × Int32 × Int32 × Int32 × (Nat → Int32) × (Nat → Int32) × (Nat → Int32) × (Nat → Int32) × (Nat → Int32) := if (1000 : Int32) < (p75.2.2.1 : Int32) then (((p75.2.2.2.2.2.2.2.2.2.2.1 : Int32), (p75.2.1 : Int32), (p75.2.2.1 : Int32), (p75.2.2.2.1 : Int64), (p75.2.2.2.2.1 : Int32), (p75.2.2.2.2.2.1 : Int32), (p75.2.2.2.2.2.2.1 : Int32), (p75.2.2.2.2.2.2.2.1 : Int32), (p75.2.2.2.2.2.2.2.2.1 : Int32), (p75.2.2.2.2.2.2.2.2.2.1 : Int32), (p75.2.2.2.2.2.2.2.2.2.2.1 : Int32), t1_0, t2_0, t3_0, t4_0, (p75.2.2.2.2.2.2.2.2.2.2.2 : (Nat → Int32)))) else (if (lg_cmp (p75.2.2.2.1 : Int64) (-10000) : Int32) < (0 : Int32) then (((p75.2.2.2.2.2.2.2.2.2.2.1 : Int32), (p75.2.1 : Int32), (p75.2.2.1 : Int32), (p75.2.2.2.1 : Int64), (p75.2.2.2.2.1 : Int32), (p75.2.2.2.2.2.1 : Int32), (p75.2.2.2.2.2.2.1 : Int32), (p75.2.2.2.2.2.2.2.1 : Int32), (p75.2.2.2.2.2.2.2.2.1 : Int32), (p75.2.2.2.2.2.2.2.2.2.1 : Int32), (p75.2.2.2.2.2.2.2.2.2.2.1 : Int32), t1_0, t2_0, t3_0, t4_0, (p75.2.2.2.2.2.2.2.2.2.2.2 : (Nat → Int32)))) else (if (lg_cmp (p75.2.2.2.1 : Int64) 10000 : Int32) ≤ (0 : Int32) then (F_DR_store_L47 x2 t0_0 t0_1 t0_2 t0_3 t0_4 t0_5 t0_6 t0_7 t0_8 t0_9 t0_10 t1_0 t2_0 t3_0 t4_0 t5_0 p75 (p75.1 : Int32) (p75.2.1 : Int32) (p75.2.2.1 : Int32) (p75.2.2.2.1 : Int64) (p75.2.2.2.2.1 : Int32) (p75.2.2.2.2.2.1 : Int32) (p75.2.2.2.2.2.2.1 : Int32) (p75.2.2.2.2.2.2.2.1 : Int32) (p75.2.2.2.2.2.2.2.2.1 : Int32) (p75.2.2.2.2.2.2.2.2.2.1 : Int32) (p75.2.2.2.2.2.2.2.2.2.2.1 : Int32) (p75.2.2.2.2.2.2.2.2.2.2.2 : (Nat → Int32)) ((1000 - (0 : Int32).toInt).toNat + 1) 0 t1_0) else (((p75.2.2.2.2.2.2.2.2.2.2.1 : Int32), (p75.2.1 : Int32), (p75.2.2.1 : Int32), (p75.2.2.2.1 : Int64), (p75.2.2.2.2.1 : Int32), (p75.2.2.2.2.2.1 : Int32), (p75.2.2.2.2.2.2.1 : Int32), (p75.2.2.2.2.2.2.2.1 : Int32), (p75.2.2.2.2.2.2.2.2.1 : Int32), (p75.2.2.2.2.2.2.2.2.2.1 : Int32), (p75.2.2.2.2.2.2.2.2.2.2.1 : Int32), t1_0, t2_0, t3_0, t4_0, (p75.2.2.2.2.2.2.2.2.2.2.2 : (Nat → Int32))))))
def F_DR_store (x2 : Int32) (t0_0 : Int32) (t0_1 : Int32) (t0_2 : Int32) (t0_3 : Int64) (t0_4 : Int32) (t0_5 : Int32) (t0_6 : Int32) (t0_7 : Int32) (t0_8 : Int32) (t0_9 : Int32) (t0_10 : Int32) (t1_0 : (Nat → Int32)) (t2_0 : (Nat → Int32)) (t3_0 : (Nat → Int32)) (t4_0 : (Nat → Int32)) (t5_0 : (Nat → Int32)) : Int32 × Int32 × Int32 × Int64 × Int32 × Int32 × Int32 × Int32 × Int32 × Int32 × Int32 × (Nat → Int32) × (Nat → Int32) × (Nat → Int32) × (Nat → Int32) × (Nat → Int32) := F_DR_store_c1 x2 t0_0 t0_1 t0_2 t0_3 t0_4 t0_5 t0_6 t0_7 t0_8 t0_9 t0_10 t1_0 t2_0 t3_0 t4_0 t5_0 ((F_DR_trim t0_0 t0_1 t0_2 t0_3 t0_4 t0_5 t0_6 t0_7 t0_8 t0_9 t0_10 t5_0) : (Int32 × Int32 × Int32 × Int64 × Int32 × Int32 × Int32 × Int32 × Int32 × Int32 × Int32 × (Nat → Int32)))
def S_DR_store_L47 (x2 : Int32) (t0_0 : Int32) (t0_1 : Int32) (t0_2 : Int32) (t0_3 : Int64) (t0_4 : Int32) (t0_5 : Int32) (t0_6 : Int32) (t0_7 : Int32) (t0_8 : Int32) (t0_9 : Int32) (t0_10 : Int32) (t1_0 : (Nat → Int32)) (t2_0 : (Nat → Int32)) (t3_0 : (Nat → Int32)) (t4_0 : (Nat → Int32)) (t5_0 : (Nat → Int32)) (p75 : (Int32 × Int32 × Int32 × Int64 × Int32 × Int32 × Int32 × Int32 × Int32 × Int32 × Int32 × (Nat → Int32))) (y36 : Int32) (y37 : Int32) (y38 : Int32) (y39 : Int64) (y40 : Int32) (y41 : Int32) (y42 : Int32) (y43 : Int32) (y44 : Int32) (y45 : Int32) (y46 : Int32) (f47 : (Nat → Int32)) : Nat → Int32 → (Nat → Int32) → Prop
  | 0, _, _ => False
  | fm + 1, lx113, lx114 => if y38 ≤ lx113 then ((0 ≤ x2.toInt) ∧ ((x2.toInt ≤ 9) ∧ (True))) else ((0 ≤ ((1000 * x2 : Int32) + lx113 : Int32).toInt) ∧ ((((1000 * x2 : Int32) + lx113 : Int32).toInt ≤ 9999) ∧ (S_DR_store_L47 x2 t0_0 t0_1 t0_2 t0_3 t0_4 t0_5 t0_6 t0_7 t0_8 t0_9 t0_10 t1_0 t2_0 t3_0 t4_0 t5_0 p75 y36 y37 y38 y39 y40 y41 y42 y43 y44 y45 y46 f47 fm (lx113 + 1 : Int32) (upd lx114 ((1000 * x2 : Int32) + lx113 : Int32).toNatClampNeg (f47 lx113.toNatClampNeg : Int32) : (Nat → Int32)))))
def S_DR_store_c1 (x2 : Int32) (t0_0 : Int32) (t0_1 : Int32) (t0_2 : Int32) (t0_3 : Int64) (t0_4 : Int32) (t0_5 : Int32) (t0_6 : Int32) (t0_7 : Int32) (t0_8 : Int32) (t0_9 : Int32) (t0_10 : Int32) (t1_0 : (Nat → Int32)) (t2_0 : (Nat → Int32)) (t3_0 : (Nat → Int32)) (t4_0 : (Nat → Int32)) (t5_0 : (Nat → Int32)) (p75 : (Int32 × Int32 × Int32 × Int64 × Int32 × Int32 × Int32 × Int32 × Int32 × Int32 × Int32 × (Nat → Int32))) : Prop := if (1000 : Int32) < (p75.2.2.1 : Int32) then (True) else (if (lg_cmp (p75.2.2.2.1 : Int64) (-10000) : Int32) < (0 : Int32) then (True) else (if (lg_cmp (p75.2.2.2.1 : Int64) 10000 : Int32) ≤ (0 : Int32) then (S_DR_store_L47 x2 t0_0 t0_1 t0_2 t0_3 t0_4 t0_5 t0_6 t0_7 t0_8 t0_9 t0_10 t1_0 t2_0 t3_0 t4_0 t5_0 p75 (p75.1 : Int32) (p75.2.1 : Int32) (p75.2.2.1 : Int32) (p75.2.2.2.1 : Int64) (p75.2.2.2.2.1 : Int32) (p75.2.2.2.2.2.1 : Int32) (p75.2.2.2.2.2.2.1 : Int32) (p75.2.2.2.2.2.2.2.1 : Int32) (p75.2.2.2.2.2.2.2.2.1 : Int32) (p75.2.2.2.2.2.2.2.2.2.1 : Int32) (p75.2.2.2.2.2.2.2.2.2.2.1 : Int32) (p75.2.2.2.2.2.2.2.2.2.2.2 : (Nat → Int32)) ((1000 - (0 : Int32).toInt).toNat + 1) 0 t1_0) else (True)))
def S_DR_store (x2 : Int32) (t0_0 : Int32) (t0_1 : Int32) (t0_2 : Int32) (t0_3 : Int64) (t0_4 : Int32) (t0_5 : Int32) (t0_6 : Int32) (t0_7 : Int32) (t0_8 : Int32) (t0_9 : Int32) (t0_10 : Int32) (t1_0 : (Nat → Int32)) (t2_0 : (Nat → Int32)) (t3_0 : (Nat → Int32)) (t4_0 : (Nat → Int32)) (t5_0 : (Nat → Int32)) : Prop := (True ∧ S_DR_trim t0_0 t0_1 t0_2 t0_3 t0_4 t0_5 t0_6 t0_7 t0_8 t0_9 t0_10 t5_0) ∧ (S_DR_store_c1 x2 t0_0 t0_1 t0_2 t0_3 t0_4 t0_5 t0_6 t0_7 t0_8 t0_9 t0_10 t1_0 t2_0 t3_0 t4_0 t5_0 ((F_DR_trim t0_0 t0_1 t0_2 t0_3 t0_4 t0_5 t0_6 t0_7 t0_8 t0_9 t0_10 t5_0) : (Int32 × Int32 × Int32 × Int64 × Int32 × Int32 × Int32 × Int32 × Int32 × Int32 × Int32 × (Nat → Int32))))
set_option maxRecDepth 100000 in
set_option maxHeartbeats 4000000 in
theorem X_DR_store (l : Launch) (D : va_G) (g : Nat → ClassId) (q : Nat → Nat) (ws : va_W) (x2 : Int32) (hI : q_I (msh g q) q ws) (t0_0 : Int32) (t0_1 : Int32) (t0_2 : Int32) (t0_3 : Int64) (t0_4 : Int32) (t0_5 : Int32) (t0_6 : Int32) (t0_7 : Int32) (t0_8 : Int32) (t0_9 : Int32) (t0_10 : Int32) (hT0 : ws[134]? = (some (q 134, .inr (14, [.int t0_0, .ref (q 135), .int t0_1, .ref (q 136), .ref (q 137), .ref (q 138), .ref (q 139), .ref (q 140), .int t0_2, .long t0_3, .int t0_4, .int t0_5, .ref (q 141), .int t0_6, .ref (q 142), .int t0_7, .ref (q 143), .int t0_8, .ref (q 144), .int t0_9, .int t0_10])) : Option (Nat × va_E))) (t1_0 : (Nat → Int32)) (hT1 : ws[136]? = (some (q 136, .inl (g 0, (10000 : Int32).toNatClampNeg, .inl t1_0)) : Option (Nat × va_E))) (t2_0 : (Nat → Int32)) (hT2 : ws[137]? = (some (q 137, .inl (g 0, (10 : Int32).toNatClampNeg, .inl t2_0)) : Option (Nat × va_E))) (t3_0 : (Nat → Int32)) (hT3 : ws[138]? = (some (q 138, .inl (g 3, 10, .inl t3_0)) : Option (Nat × va_E))) (t4_0 : (Nat → Int32)) (hT4 : ws[139]? = (some (q 139, .inl (g 0, (10 : Int32).toNatClampNeg, .inl t4_0)) : Option (Nat × va_E))) (t5_0 : (Nat → Int32)) (hT5 : ws[140]? = (some (q 140, .inl (g 0, (4400 : Int32).toNatClampNeg, .inl t5_0)) : Option (Nat × va_E))) (hS : True ∧ S_DR_store x2 t0_0 t0_1 t0_2 t0_3 t0_4 t0_5 t0_6 t0_7 t0_8 t0_9 t0_10 t1_0 t2_0 t3_0 t4_0 t5_0) : q_mV l y_DR_store prog_15_method_8_code 3 2 0 0 D g [.ref (q 134), .int x2] ws (fun u => q_I (msh g q) q u ∧ q_un ws u [134, 136, 137, 138, 139, 140] ∧ ∃ (u0_0 : Int32) (u0_1 : Int32) (u0_2 : Int32) (u0_3 : Int64) (u0_4 : Int32) (u0_5 : Int32) (u0_6 : Int32) (u0_7 : Int32) (u0_8 : Int32) (u0_9 : Int32) (u0_10 : Int32) (u1_0 : (Nat → Int32)) (u2_0 : (Nat → Int32)) (u3_0 : (Nat → Int32)) (u4_0 : (Nat → Int32)) (u5_0 : (Nat → Int32)), u[134]? = (some (q 134, .inr (14, [.int u0_0, .ref (q 135), .int u0_1, .ref (q 136), .ref (q 137), .ref (q 138), .ref (q 139), .ref (q 140), .int u0_2, .long u0_3, .int u0_4, .int u0_5, .ref (q 141), .int u0_6, .ref (q 142), .int u0_7, .ref (q 143), .int u0_8, .ref (q 144), .int u0_9, .int u0_10])) : Option (Nat × va_E)) ∧ u[136]? = (some (q 136, .inl (g 0, (10000 : Int32).toNatClampNeg, .inl u1_0)) : Option (Nat × va_E)) ∧ u[137]? = (some (q 137, .inl (g 0, (10 : Int32).toNatClampNeg, .inl u2_0)) : Option (Nat × va_E)) ∧ u[138]? = (some (q 138, .inl (g 3, 10, .inl u3_0)) : Option (Nat × va_E)) ∧ u[139]? = (some (q 139, .inl (g 0, (10 : Int32).toNatClampNeg, .inl u4_0)) : Option (Nat × va_E)) ∧ u[140]? = (some (q 140, .inl (g 0, (4400 : Int32).toNatClampNeg, .inl u5_0)) : Option (Nat × va_E)) ∧ (0 ≤ u0_5.toInt) ∧ (t0_1.toInt ≤ u0_1.toInt) ∧ (u0_1.toInt ≤ t0_1.toInt) ∧ (t0_2.toInt ≤ u0_1.toInt + 24400) ∧ (t0_3.toInt ≤ u0_3.toInt) ∧ (u0_3.toInt ≤ t0_3.toInt) ∧ (t0_2.toInt ≤ u0_4.toInt + 24400) ∧ (t0_4.toInt ≤ u0_4.toInt) ∧ (u0_4.toInt ≤ t0_4.toInt) ∧ (t0_2.toInt ≤ u0_5.toInt + 24400) ∧ (u0_5.toInt ≤ t0_5.toInt) ∧ (t0_6.toInt ≤ u0_6.toInt) ∧ (u0_6.toInt ≤ t0_6.toInt) ∧ (t0_7.toInt ≤ u0_7.toInt) ∧ (u0_7.toInt ≤ t0_7.toInt) ∧ (t0_8.toInt ≤ u0_8.toInt) ∧ (u0_8.toInt ≤ t0_8.toInt) ∧ (t0_2.toInt ≤ u0_9.toInt + 24400) ∧ (t0_9.toInt ≤ u0_9.toInt) ∧ (u0_9.toInt ≤ t0_9.toInt) ∧ (t0_10.toInt ≤ u0_10.toInt) ∧ (u0_10.toInt ≤ t0_10.toInt) ∧ (u0_0, u0_1, u0_2, u0_3, u0_4, u0_5, u0_6, u0_7, u0_8, u0_9, u0_10, u1_0, u2_0, u3_0, u4_0, u5_0) = (F_DR_store x2 t0_0 t0_1 t0_2 t0_3 t0_4 t0_5 t0_6 t0_7 t0_8 t0_9 t0_10 t1_0 t2_0 t3_0 t4_0 t5_0)) := by
  intro sz
  refine q_into (by decide) (Nat.le_of_ble_eq_true rfl) ?_
  intro p e s m below meth c ls hsz C0 V hl
  have hx := C0.1
  have hb := C0.2.1
  obtain ⟨btt0_1, hZ9⟩ := n_w134 hI hT0
  obtain ⟨btt0_4, hZ9⟩ := hZ9
  obtain ⟨btt0_5, btt0_9⟩ := hZ9
  replace btt0_1 : q_F (0 ≤ t0_1.toInt ∧ t0_1.toInt ≤ 4100) := btt0_1
  replace btt0_4 : q_F (0 ≤ t0_4.toInt ∧ t0_4.toInt ≤ 1) := btt0_4
  replace btt0_5 : q_F (0 ≤ t0_5.toInt ∧ t0_5.toInt ≤ 1) := btt0_5
  replace btt0_9 : q_F (0 ≤ t0_9.toInt ∧ t0_9.toInt ≤ 12200) := btt0_9
  have hF : q_un ws ws [134, 136, 137, 138, 139, 140] := q_u0
  have hl : lv_has ls 3 [(0, .ref (q 134)), (1, .int x2)] := hl
  refine lv_aload_n hx hb d_15_8_0 rfl (lv_at hl 0 rfl) ?_
  have ob32 : True ∧ S_DR_trim t0_0 t0_1 t0_2 t0_3 t0_4 t0_5 t0_6 t0_7 t0_8 t0_9 t0_10 t5_0 := (by have h := hS; rw [S_DR_store.eq_1] at h; with_reducible exact h.2.1)
  refine q_gov V (q_runV (As := []) (rest := []) (d := 1) (mc := 0) (ms := 0) (ci := 14) C0 V rfl LV_DR_59 (X_DR_trim l D g q ws   hI t0_0 t0_1 t0_2 t0_3 t0_4 t0_5 t0_6 t0_7 t0_8 t0_9 t0_10 hT0 t5_0 hT5 ob32 _) rfl rfl hT0 rfl hl.1 rfl (Nat.le_of_ble_eq_true rfl) ⟨by decide, by decide⟩ ⟨Nat.le_of_ble_eq_true rfl, Nat.le_of_ble_eq_true rfl⟩ d_15_8_1) (fun u33 H locs hp34 V => ?_)
  obtain ⟨hI, hZ9⟩ := hp34
  obtain ⟨hu74, hZ9⟩ := hZ9
  obtain ⟨y36, hZ9⟩ := hZ9
  obtain ⟨y37, hZ9⟩ := hZ9
  obtain ⟨y38, hZ9⟩ := hZ9
  obtain ⟨y39, hZ9⟩ := hZ9
  obtain ⟨y40, hZ9⟩ := hZ9
  obtain ⟨y41, hZ9⟩ := hZ9
  obtain ⟨y42, hZ9⟩ := hZ9
  obtain ⟨y43, hZ9⟩ := hZ9
  obtain ⟨y44, hZ9⟩ := hZ9
  obtain ⟨y45, hZ9⟩ := hZ9
  obtain ⟨y46, hZ9⟩ := hZ9
  obtain ⟨f47, hZ9⟩ := hZ9
  obtain ⟨hO35, hZ9⟩ := hZ9
  obtain ⟨hA48, hZ9⟩ := hZ9
  obtain ⟨b49, hZ9⟩ := hZ9
  replace hZ9 := hZ9.2.2
  obtain ⟨b52, hZ9⟩ := hZ9
  obtain ⟨b53, hZ9⟩ := hZ9
  obtain ⟨b54, hZ9⟩ := hZ9
  obtain ⟨b55, hZ9⟩ := hZ9
  obtain ⟨b56, hZ9⟩ := hZ9
  obtain ⟨b57, hZ9⟩ := hZ9
  obtain ⟨b58, hZ9⟩ := hZ9
  obtain ⟨b59, hZ9⟩ := hZ9
  obtain ⟨b60, hZ9⟩ := hZ9
  obtain ⟨b61, hZ9⟩ := hZ9
  obtain ⟨b62, hZ9⟩ := hZ9
  obtain ⟨b63, hZ9⟩ := hZ9
  obtain ⟨b64, hZ9⟩ := hZ9
  obtain ⟨b65, hZ9⟩ := hZ9
  obtain ⟨b66, hZ9⟩ := hZ9
  obtain ⟨b67, hZ9⟩ := hZ9
  obtain ⟨b68, hZ9⟩ := hZ9
  obtain ⟨b69, hZ9⟩ := hZ9
  obtain ⟨b70, hZ9⟩ := hZ9
  obtain ⟨b71, hZ9⟩ := hZ9
  obtain ⟨b72, hE73⟩ := hZ9
  replace hO35 : u33[134]? = (some (q 134, .inr (14, [.int y36, .ref (q 135), .int y37, .ref (q 136), .ref (q 137), .ref (q 138), .ref (q 139), .ref (q 140), .int y38, .long y39, .int y40, .int y41, .ref (q 141), .int y42, .ref (q 142), .int y43, .ref (q 143), .int y44, .ref (q 144), .int y45, .int y46])) : Option (Nat × va_E)) := hO35
  replace hA48 : u33[140]? = (some (q 140, .inl (g 0, (4400 : Int32).toNatClampNeg, .inl f47)) : Option (Nat × va_E)) := hA48
  obtain ⟨p75, e76⟩ : ∃ z, z = (F_DR_trim t0_0 t0_1 t0_2 t0_3 t0_4 t0_5 t0_6 t0_7 t0_8 t0_9 t0_10 t5_0) := ⟨_, rfl⟩
  have e77 : y36 = p75.1 := congrArg (fun z => z.1) (hE73.trans e76.symm)
  have e78 : y37 = p75.2.1 := congrArg (fun z => z.2.1) (hE73.trans e76.symm)
  have e79 : y38 = p75.2.2.1 := congrArg (fun z => z.2.2.1) (hE73.trans e76.symm)
  have e80 : y39 = p75.2.2.2.1 := congrArg (fun z => z.2.2.2.1) (hE73.trans e76.symm)
  have e81 : y40 = p75.2.2.2.2.1 := congrArg (fun z => z.2.2.2.2.1) (hE73.trans e76.symm)
  have e82 : y41 = p75.2.2.2.2.2.1 := congrArg (fun z => z.2.2.2.2.2.1) (hE73.trans e76.symm)
  have e83 : y42 = p75.2.2.2.2.2.2.1 := congrArg (fun z => z.2.2.2.2.2.2.1) (hE73.trans e76.symm)
  have e84 : y43 = p75.2.2.2.2.2.2.2.1 := congrArg (fun z => z.2.2.2.2.2.2.2.1) (hE73.trans e76.symm)
  have e85 : y44 = p75.2.2.2.2.2.2.2.2.1 := congrArg (fun z => z.2.2.2.2.2.2.2.2.1) (hE73.trans e76.symm)
  have e86 : y45 = p75.2.2.2.2.2.2.2.2.2.1 := congrArg (fun z => z.2.2.2.2.2.2.2.2.2.1) (hE73.trans e76.symm)
  have e87 : y46 = p75.2.2.2.2.2.2.2.2.2.2.1 := congrArg (fun z => z.2.2.2.2.2.2.2.2.2.2.1) (hE73.trans e76.symm)
  have e88 : f47 = p75.2.2.2.2.2.2.2.2.2.2.2 := congrArg (fun z => z.2.2.2.2.2.2.2.2.2.2.2) (hE73.trans e76.symm)
  replace b49 : q_F (0 ≤ y41.toInt) := b49
  replace b52 : q_F (t0_1.toInt ≤ y37.toInt) := b52
  replace b53 : q_F (y37.toInt ≤ t0_1.toInt) := b53
  replace b54 : q_F (t0_2.toInt ≤ y37.toInt + 24400) := b54
  replace b55 : q_F (t0_3.toInt ≤ y39.toInt) := b55
  replace b56 : q_F (y39.toInt ≤ t0_3.toInt) := b56
  replace b57 : q_F (t0_2.toInt ≤ y40.toInt + 24400) := b57
  replace b58 : q_F (t0_4.toInt ≤ y40.toInt) := b58
  replace b59 : q_F (y40.toInt ≤ t0_4.toInt) := b59
  replace b60 : q_F (t0_2.toInt ≤ y41.toInt + 24400) := b60
  replace b61 : q_F (y41.toInt ≤ t0_5.toInt) := b61
  replace b62 : q_F (t0_6.toInt ≤ y42.toInt) := b62
  replace b63 : q_F (y42.toInt ≤ t0_6.toInt) := b63
  replace b64 : q_F (t0_7.toInt ≤ y43.toInt) := b64
  replace b65 : q_F (y43.toInt ≤ t0_7.toInt) := b65
  replace b66 : q_F (t0_8.toInt ≤ y44.toInt) := b66
  replace b67 : q_F (y44.toInt ≤ t0_8.toInt) := b67
  replace b68 : q_F (t0_2.toInt ≤ y45.toInt + 24400) := b68
  replace b69 : q_F (t0_9.toInt ≤ y45.toInt) := b69
  replace b70 : q_F (y45.toInt ≤ t0_9.toInt) := b70
  replace b71 : q_F (t0_10.toInt ≤ y46.toInt) := b71
  replace b72 : q_F (y46.toInt ≤ t0_10.toInt) := b72
  replace hT1 := (hu74 _ (by decide)).trans hT1
  replace hT2 := (hu74 _ (by decide)).trans hT2
  replace hT3 := (hu74 _ (by decide)).trans hT3
  replace hT4 := (hu74 _ (by decide)).trans hT4
  replace hF := q_uc hF hu74 (by simp)
  have hR89 := (show F_DR_store_c1 x2 t0_0 t0_1 t0_2 t0_3 t0_4 t0_5 t0_6 t0_7 t0_8 t0_9 t0_10 t1_0 t2_0 t3_0 t4_0 t5_0 p75 = (F_DR_store x2 t0_0 t0_1 t0_2 t0_3 t0_4 t0_5 t0_6 t0_7 t0_8 t0_9 t0_10 t1_0 t2_0 t3_0 t4_0 t5_0) from (by rw [e76, F_DR_store.eq_1]))
  have hS90 := (show True ∧ S_DR_store_c1 x2 t0_0 t0_1 t0_2 t0_3 t0_4 t0_5 t0_6 t0_7 t0_8 t0_9 t0_10 t1_0 t2_0 t3_0 t4_0 t5_0 p75 from (by rw [e76]; have h := hS; rw [S_DR_store.eq_1] at h; replace h := q_s2 h; with_reducible exact h))
  refine lv_aload_n hx hb d_15_8_4 rfl (lv_at hl 0 rfl) ?_
  refine q_get (ci := 14) (j := 8) (v := .int y38) C0 V i_DR rfl rfl hO35 (by decide) w_2011 rfl d_15_8_5 ?_
  refine lv_sipush (v := 1000) hx hb d_15_8_8 (by decide) ?_
  refine lv_icmp_gt (tgt := 36) hx hb d_15_8_11 (by decide) (fun c94 => ?_) (fun c94 => ?_)
  ·
    refine lv_aload_n hx hb d_15_8_36 rfl (lv_at hl 0 rfl) ?_
    refine lv_aload_n hx hb d_15_8_37 rfl (lv_at hl 0 rfl) ?_
    refine q_get (ci := 14) (j := 20) (v := .int y46) C0 V i_DR rfl rfl hO35 (by decide) w_2024 rfl d_15_8_38 ?_
    refine q_put (ci := 14) (j := 0) (v := .int y46) (ty := .int) C0 V i_DR o_DR n_DR rfl rfl hO35 (by decide) w_1996 rfl rfl rfl rfl (Nat.le_of_ble_eq_true rfl) d_15_8_41 (fun H locs w96 hu97 hO35 V => ?_)
    replace hO35 : w96[134]? = (some (q 134, .inr (14, [.int y46, .ref (q 135), .int y37, .ref (q 136), .ref (q 137), .ref (q 138), .ref (q 139), .ref (q 140), .int y38, .long y39, .int y40, .int y41, .ref (q 141), .int y42, .ref (q 142), .int y43, .ref (q 143), .int y44, .ref (q 144), .int y45, .int y46])) : Option (Nat × va_E)) := hO35
    replace hI := n_p134 hI hu97 hO35 ⟨(by have t1 : 0 ≤ t0_1.toInt ∧ t0_1.toInt ≤ 4100 := btt0_1; have t2 : t0_1.toInt ≤ y37.toInt := b52; omega), (by have t1 : 0 ≤ t0_1.toInt ∧ t0_1.toInt ≤ 4100 := btt0_1; have t2 : y37.toInt ≤ t0_1.toInt := b53; omega)⟩ ⟨(by have t1 : 0 ≤ t0_4.toInt ∧ t0_4.toInt ≤ 1 := btt0_4; have t2 : t0_4.toInt ≤ y40.toInt := b58; omega), (by have t1 : 0 ≤ t0_4.toInt ∧ t0_4.toInt ≤ 1 := btt0_4; have t2 : y40.toInt ≤ t0_4.toInt := b59; omega)⟩ ⟨(by first | with_reducible exact q_fe b49 | (have t1 : 0 ≤ y41.toInt := b49; omega)), (by have t1 : 0 ≤ t0_5.toInt ∧ t0_5.toInt ≤ 1 := btt0_5; have t2 : y41.toInt ≤ t0_5.toInt := b61; omega)⟩ ⟨(by have t1 : 0 ≤ t0_9.toInt ∧ t0_9.toInt ≤ 12200 := btt0_9; have t2 : t0_9.toInt ≤ y45.toInt := b69; omega), (by have t1 : 0 ≤ t0_9.toInt ∧ t0_9.toInt ≤ 12200 := btt0_9; have t2 : y45.toInt ≤ t0_9.toInt := b70; omega)⟩
    replace hT1 := (hu97 _ (by decide)).trans hT1
    replace hT2 := (hu97 _ (by decide)).trans hT2
    replace hT3 := (hu97 _ (by decide)).trans hT3
    replace hT4 := (hu97 _ (by decide)).trans hT4
    replace hA48 := (hu97 _ (by decide)).trans hA48
    replace hF := q_us hF hu97 (by simp)
    exact q_retv C0 V (⟨hI, hF, y46, y37, y38, y39, y40, y41, y42, y43, y44, y45, y46, t1_0, t2_0, t3_0, t4_0, f47, hO35, hT1, hT2, hT3, hT4, hA48, (show 0 ≤ y41.toInt from (by first | with_reducible exact q_fe b49 | (have t1 : 0 ≤ y41.toInt := b49; omega))), (show t0_1.toInt ≤ y37.toInt from (by first | with_reducible exact q_fe b52 | (have t1 : t0_1.toInt ≤ y37.toInt := b52; omega))), (show y37.toInt ≤ t0_1.toInt from (by first | with_reducible exact q_fe b53 | (have t1 : y37.toInt ≤ t0_1.toInt := b53; omega))), (show t0_2.toInt ≤ y37.toInt + 24400 from (by first | with_reducible exact q_fe b54 | (have t1 : t0_2.toInt ≤ y37.toInt + 24400 := b54; omega))), (show t0_3.toInt ≤ y39.toInt from (by first | with_reducible exact q_fe b55 | (have t1 : t0_3.toInt ≤ y39.toInt := b55; omega))), (show y39.toInt ≤ t0_3.toInt from (by first | with_reducible exact q_fe b56 | (have t1 : y39.toInt ≤ t0_3.toInt := b56; omega))), (show t0_2.toInt ≤ y40.toInt + 24400 from (by first | with_reducible exact q_fe b57 | (have t1 : t0_2.toInt ≤ y40.toInt + 24400 := b57; omega))), (show t0_4.toInt ≤ y40.toInt from (by first | with_reducible exact q_fe b58 | (have t1 : t0_4.toInt ≤ y40.toInt := b58; omega))), (show y40.toInt ≤ t0_4.toInt from (by first | with_reducible exact q_fe b59 | (have t1 : y40.toInt ≤ t0_4.toInt := b59; omega))), (show t0_2.toInt ≤ y41.toInt + 24400 from (by first | with_reducible exact q_fe b60 | (have t1 : t0_2.toInt ≤ y41.toInt + 24400 := b60; omega))), (show y41.toInt ≤ t0_5.toInt from (by first | with_reducible exact q_fe b61 | (have t1 : y41.toInt ≤ t0_5.toInt := b61; omega))), (show t0_6.toInt ≤ y42.toInt from (by first | with_reducible exact q_fe b62 | (have t1 : t0_6.toInt ≤ y42.toInt := b62; omega))), (show y42.toInt ≤ t0_6.toInt from (by first | with_reducible exact q_fe b63 | (have t1 : y42.toInt ≤ t0_6.toInt := b63; omega))), (show t0_7.toInt ≤ y43.toInt from (by first | with_reducible exact q_fe b64 | (have t1 : t0_7.toInt ≤ y43.toInt := b64; omega))), (show y43.toInt ≤ t0_7.toInt from (by first | with_reducible exact q_fe b65 | (have t1 : y43.toInt ≤ t0_7.toInt := b65; omega))), (show t0_8.toInt ≤ y44.toInt from (by first | with_reducible exact q_fe b66 | (have t1 : t0_8.toInt ≤ y44.toInt := b66; omega))), (show y44.toInt ≤ t0_8.toInt from (by first | with_reducible exact q_fe b67 | (have t1 : y44.toInt ≤ t0_8.toInt := b67; omega))), (show t0_2.toInt ≤ y45.toInt + 24400 from (by first | with_reducible exact q_fe b68 | (have t1 : t0_2.toInt ≤ y45.toInt + 24400 := b68; omega))), (show t0_9.toInt ≤ y45.toInt from (by first | with_reducible exact q_fe b69 | (have t1 : t0_9.toInt ≤ y45.toInt := b69; omega))), (show y45.toInt ≤ t0_9.toInt from (by first | with_reducible exact q_fe b70 | (have t1 : y45.toInt ≤ t0_9.toInt := b70; omega))), (show t0_10.toInt ≤ y46.toInt from (by first | with_reducible exact q_fe b71 | (have t1 : t0_10.toInt ≤ y46.toInt := b71; omega))), (show y46.toInt ≤ t0_10.toInt from (by first | with_reducible exact q_fe b72 | (have t1 : y46.toInt ≤ t0_10.toInt := b72; omega))), (show (y46, y37, y38, y39, y40, y41, y42, y43, y44, y45, y46, t1_0, t2_0, t3_0, t4_0, f47) = (F_DR_store x2 t0_0 t0_1 t0_2 t0_3 t0_4 t0_5 t0_6 t0_7 t0_8 t0_9 t0_10 t1_0 t2_0 t3_0 t4_0 t5_0) from Eq.trans (by have c94x := c94; rw [e79] at c94x; rw [e88, e87, e86, e85, e84, e83, e82, e81, e80, e79, e78, F_DR_store_c1.eq_1, if_pos c94x]) hR89)⟩) d_15_8_44
  ·
    have b98 : q_F (y38.toInt ≤ 1000) := (q_nltI c94)
    refine lv_aload_n hx hb d_15_8_14 rfl (lv_at hl 0 rfl) ?_
    refine q_get (ci := 14) (j := 9) (v := .long y39) C0 V i_DR rfl rfl hO35 (by decide) w_2012 rfl d_15_8_15 ?_
    refine q_ldc2 C0 rfl w_2417 d_15_8_18 ?_
    refine W.lcmp hx hb d_15_8_21 ?_
    obtain ⟨a99, e100⟩ := q_nm (lg_cmp y39 (-10000) : Int32)
    refine q_ti (v := a99) e100 ?_
    refine lv_if_lt (tgt := 36) hx hb d_15_8_22 (by decide) (fun c102 => ?_) (fun c102 => ?_)
    ·
      refine lv_aload_n hx hb d_15_8_36 rfl (lv_at hl 0 rfl) ?_
      refine lv_aload_n hx hb d_15_8_37 rfl (lv_at hl 0 rfl) ?_
      refine q_get (ci := 14) (j := 20) (v := .int y46) C0 V i_DR rfl rfl hO35 (by decide) w_2024 rfl d_15_8_38 ?_
      refine q_put (ci := 14) (j := 0) (v := .int y46) (ty := .int) C0 V i_DR o_DR n_DR rfl rfl hO35 (by decide) w_1996 rfl rfl rfl rfl (Nat.le_of_ble_eq_true rfl) d_15_8_41 (fun H locs w104 hu105 hO35 V => ?_)
      replace hO35 : w104[134]? = (some (q 134, .inr (14, [.int y46, .ref (q 135), .int y37, .ref (q 136), .ref (q 137), .ref (q 138), .ref (q 139), .ref (q 140), .int y38, .long y39, .int y40, .int y41, .ref (q 141), .int y42, .ref (q 142), .int y43, .ref (q 143), .int y44, .ref (q 144), .int y45, .int y46])) : Option (Nat × va_E)) := hO35
      replace hI := n_p134 hI hu105 hO35 ⟨(by have t1 : 0 ≤ t0_1.toInt ∧ t0_1.toInt ≤ 4100 := btt0_1; have t2 : t0_1.toInt ≤ y37.toInt := b52; omega), (by have t1 : 0 ≤ t0_1.toInt ∧ t0_1.toInt ≤ 4100 := btt0_1; have t2 : y37.toInt ≤ t0_1.toInt := b53; omega)⟩ ⟨(by have t1 : 0 ≤ t0_4.toInt ∧ t0_4.toInt ≤ 1 := btt0_4; have t2 : t0_4.toInt ≤ y40.toInt := b58; omega), (by have t1 : 0 ≤ t0_4.toInt ∧ t0_4.toInt ≤ 1 := btt0_4; have t2 : y40.toInt ≤ t0_4.toInt := b59; omega)⟩ ⟨(by first | with_reducible exact q_fe b49 | (have t1 : 0 ≤ y41.toInt := b49; omega)), (by have t1 : 0 ≤ t0_5.toInt ∧ t0_5.toInt ≤ 1 := btt0_5; have t2 : y41.toInt ≤ t0_5.toInt := b61; omega)⟩ ⟨(by have t1 : 0 ≤ t0_9.toInt ∧ t0_9.toInt ≤ 12200 := btt0_9; have t2 : t0_9.toInt ≤ y45.toInt := b69; omega), (by have t1 : 0 ≤ t0_9.toInt ∧ t0_9.toInt ≤ 12200 := btt0_9; have t2 : y45.toInt ≤ t0_9.toInt := b70; omega)⟩
      replace hT1 := (hu105 _ (by decide)).trans hT1
      replace hT2 := (hu105 _ (by decide)).trans hT2
      replace hT3 := (hu105 _ (by decide)).trans hT3
      replace hT4 := (hu105 _ (by decide)).trans hT4
      replace hA48 := (hu105 _ (by decide)).trans hA48
      replace hF := q_us hF hu105 (by simp)
      exact q_retv C0 V (⟨hI, hF, y46, y37, y38, y39, y40, y41, y42, y43, y44, y45, y46, t1_0, t2_0, t3_0, t4_0, f47, hO35, hT1, hT2, hT3, hT4, hA48, (show 0 ≤ y41.toInt from (by first | with_reducible exact q_fe b49 | (have t1 : 0 ≤ y41.toInt := b49; omega))), (show t0_1.toInt ≤ y37.toInt from (by first | with_reducible exact q_fe b52 | (have t1 : t0_1.toInt ≤ y37.toInt := b52; omega))), (show y37.toInt ≤ t0_1.toInt from (by first | with_reducible exact q_fe b53 | (have t1 : y37.toInt ≤ t0_1.toInt := b53; omega))), (show t0_2.toInt ≤ y37.toInt + 24400 from (by first | with_reducible exact q_fe b54 | (have t1 : t0_2.toInt ≤ y37.toInt + 24400 := b54; omega))), (show t0_3.toInt ≤ y39.toInt from (by first | with_reducible exact q_fe b55 | (have t1 : t0_3.toInt ≤ y39.toInt := b55; omega))), (show y39.toInt ≤ t0_3.toInt from (by first | with_reducible exact q_fe b56 | (have t1 : y39.toInt ≤ t0_3.toInt := b56; omega))), (show t0_2.toInt ≤ y40.toInt + 24400 from (by first | with_reducible exact q_fe b57 | (have t1 : t0_2.toInt ≤ y40.toInt + 24400 := b57; omega))), (show t0_4.toInt ≤ y40.toInt from (by first | with_reducible exact q_fe b58 | (have t1 : t0_4.toInt ≤ y40.toInt := b58; omega))), (show y40.toInt ≤ t0_4.toInt from (by first | with_reducible exact q_fe b59 | (have t1 : y40.toInt ≤ t0_4.toInt := b59; omega))), (show t0_2.toInt ≤ y41.toInt + 24400 from (by first | with_reducible exact q_fe b60 | (have t1 : t0_2.toInt ≤ y41.toInt + 24400 := b60; omega))), (show y41.toInt ≤ t0_5.toInt from (by first | with_reducible exact q_fe b61 | (have t1 : y41.toInt ≤ t0_5.toInt := b61; omega))), (show t0_6.toInt ≤ y42.toInt from (by first | with_reducible exact q_fe b62 | (have t1 : t0_6.toInt ≤ y42.toInt := b62; omega))), (show y42.toInt ≤ t0_6.toInt from (by first | with_reducible exact q_fe b63 | (have t1 : y42.toInt ≤ t0_6.toInt := b63; omega))), (show t0_7.toInt ≤ y43.toInt from (by first | with_reducible exact q_fe b64 | (have t1 : t0_7.toInt ≤ y43.toInt := b64; omega))), (show y43.toInt ≤ t0_7.toInt from (by first | with_reducible exact q_fe b65 | (have t1 : y43.toInt ≤ t0_7.toInt := b65; omega))), (show t0_8.toInt ≤ y44.toInt from (by first | with_reducible exact q_fe b66 | (have t1 : t0_8.toInt ≤ y44.toInt := b66; omega))), (show y44.toInt ≤ t0_8.toInt from (by first | with_reducible exact q_fe b67 | (have t1 : y44.toInt ≤ t0_8.toInt := b67; omega))), (show t0_2.toInt ≤ y45.toInt + 24400 from (by first | with_reducible exact q_fe b68 | (have t1 : t0_2.toInt ≤ y45.toInt + 24400 := b68; omega))), (show t0_9.toInt ≤ y45.toInt from (by first | with_reducible exact q_fe b69 | (have t1 : t0_9.toInt ≤ y45.toInt := b69; omega))), (show y45.toInt ≤ t0_9.toInt from (by first | with_reducible exact q_fe b70 | (have t1 : y45.toInt ≤ t0_9.toInt := b70; omega))), (show t0_10.toInt ≤ y46.toInt from (by first | with_reducible exact q_fe b71 | (have t1 : t0_10.toInt ≤ y46.toInt := b71; omega))), (show y46.toInt ≤ t0_10.toInt from (by first | with_reducible exact q_fe b72 | (have t1 : y46.toInt ≤ t0_10.toInt := b72; omega))), (show (y46, y37, y38, y39, y40, y41, y42, y43, y44, y45, y46, t1_0, t2_0, t3_0, t4_0, f47) = (F_DR_store x2 t0_0 t0_1 t0_2 t0_3 t0_4 t0_5 t0_6 t0_7 t0_8 t0_9 t0_10 t1_0 t2_0 t3_0 t4_0 t5_0) from Eq.trans (by have c94x := c94; rw [e79] at c94x; have c102x := c102; rw [← e100, e80] at c102x; rw [e88, e87, e86, e85, e84, e83, e82, e81, e80, e79, e78, F_DR_store_c1.eq_1, if_neg c94x, if_pos c102x]) hR89)⟩) d_15_8_44
    ·
      refine lv_aload_n hx hb d_15_8_25 rfl (lv_at hl 0 rfl) ?_
      refine q_get (ci := 14) (j := 9) (v := .long y39) C0 V i_DR rfl rfl hO35 (by decide) w_2012 rfl d_15_8_26 ?_
      refine q_ldc2 C0 rfl w_2418 d_15_8_29 ?_
      refine W.lcmp hx hb d_15_8_32 ?_
      obtain ⟨a107, e108⟩ := q_nm (lg_cmp y39 10000 : Int32)
      refine q_ti (v := a107) e108 ?_
      refine lv_if_le (tgt := 45) hx hb d_15_8_33 (by decide) (fun c110 => ?_) (fun c110 => ?_)
      ·
        refine lv_iconst (v := 0) hx hb d_15_8_45 (by decide) ?_
        refine lv_istore_n (lv' := [(2, .int 0), (0, .ref (q 134)), (1, .int x2)]) hx hb d_15_8_46 rfl hl (by decide) rfl (fun ls hl => ?_)
        refine q_loop (X := Int32 × (Nat → Int32)) (fun z H locs ls w118 => q_F (0 ≤ z.1.toInt) ∧ q_F (z.1.toInt ≤ 1000) ∧ q_Wd D g (va_A ws sz) s w118 H locs ∧ lv_has ls 3 [(2, .int z.1), (0, .ref (q 134)), (1, .int x2)] ∧ q_I (msh g q) q w118 ∧ q_un ws w118 [134, 136, 137, 138, 139, 140] ∧ w118[134]? = (some (q 134, .inr (14, [.int y36, .ref (q 135), .int y37, .ref (q 136), .ref (q 137), .ref (q 138), .ref (q 139), .ref (q 140), .int y38, .long y39, .int y40, .int y41, .ref (q 141), .int y42, .ref (q 142), .int y43, .ref (q 143), .int y44, .ref (q 144), .int y45, .int y46])) : Option (Nat × va_E)) ∧ w118[136]? = (some (q 136, .inl (g 0, (10000 : Int32).toNatClampNeg, .inl z.2)) : Option (Nat × va_E)) ∧ w118[137]? = (some (q 137, .inl (g 0, (10 : Int32).toNatClampNeg, .inl t2_0)) : Option (Nat × va_E)) ∧ w118[138]? = (some (q 138, .inl (g 3, 10, .inl t3_0)) : Option (Nat × va_E)) ∧ w118[139]? = (some (q 139, .inl (g 0, (10 : Int32).toNatClampNeg, .inl t4_0)) : Option (Nat × va_E)) ∧ w118[140]? = (some (q 140, .inl (g 0, (4400 : Int32).toNatClampNeg, .inl f47)) : Option (Nat × va_E)) ∧ (∃ n, (1000 - z.1.toInt).toNat < n ∧ F_DR_store_L47 x2 t0_0 t0_1 t0_2 t0_3 t0_4 t0_5 t0_6 t0_7 t0_8 t0_9 t0_10 t1_0 t2_0 t3_0 t4_0 t5_0 p75 y36 y37 y38 y39 y40 y41 y42 y43 y44 y45 y46 f47 n z.1 z.2 = (F_DR_store x2 t0_0 t0_1 t0_2 t0_3 t0_4 t0_5 t0_6 t0_7 t0_8 t0_9 t0_10 t1_0 t2_0 t3_0 t4_0 t5_0) ∧ True ∧ S_DR_store_L47 x2 t0_0 t0_1 t0_2 t0_3 t0_4 t0_5 t0_6 t0_7 t0_8 t0_9 t0_10 t1_0 t2_0 t3_0 t4_0 t5_0 p75 y36 y37 y38 y39 y40 y41 y42 y43 y44 y45 y46 f47 n z.1 z.2)) (fun z => (1000 - z.1.toInt).toNat) ?_ ((0 : Int32), (t1_0 : (Nat → Int32))) _ _ _ u33 ⟨(show q_F (0 ≤ 0) from (show 0 ≤ 0 from by omega)), (show q_F (0 ≤ 1000) from (show 0 ≤ 1000 from by omega)), V, q_lw hl (q_lw1 0 rfl (q_lw1 1 rfl (q_lw1 2 rfl q_lw0))), hI, hF, hO35, hT1, hT2, hT3, hT4, hA48, ⟨((1000 - (0 : Int32).toInt).toNat + 1), Nat.lt_succ_self _, (show F_DR_store_L47 x2 t0_0 t0_1 t0_2 t0_3 t0_4 t0_5 t0_6 t0_7 t0_8 t0_9 t0_10 t1_0 t2_0 t3_0 t4_0 t5_0 p75 y36 y37 y38 y39 y40 y41 y42 y43 y44 y45 y46 f47 ((1000 - (0 : Int32).toInt).toNat + 1) 0 t1_0 = (F_DR_store x2 t0_0 t0_1 t0_2 t0_3 t0_4 t0_5 t0_6 t0_7 t0_8 t0_9 t0_10 t1_0 t2_0 t3_0 t4_0 t5_0) from Eq.trans (by have c94x := c94; rw [e79] at c94x; have c102x := c102; rw [← e100, e80] at c102x; have c110x := c110; rw [← e108, e80] at c110x; rw [e88, e87, e86, e85, e84, e83, e82, e81, e80, e79, e78, e77, F_DR_store_c1.eq_1, if_neg c94x, if_neg c102x, if_pos c110x]) hR89), (show True ∧ S_DR_store_L47 x2 t0_0 t0_1 t0_2 t0_3 t0_4 t0_5 t0_6 t0_7 t0_8 t0_9 t0_10 t1_0 t2_0 t3_0 t4_0 t5_0 p75 y36 y37 y38 y39 y40 y41 y42 y43 y44 y45 y46 f47 ((1000 - (0 : Int32).toInt).toNat + 1) 0 t1_0 from (by rw [e88, e87, e86, e85, e84, e83, e82, e81, e80, e79, e78, e77]; have h := hS90; rw [S_DR_store_c1.eq_1] at h; have c94x := c94; rw [e79] at c94x; rw [if_neg c94x] at h; have c102x := c102; rw [← e100, e80] at c102x; rw [if_neg c102x] at h; have c110x := c110; rw [← e108, e80] at c110x; rw [if_pos c110x] at h; with_reducible exact h))⟩⟩
        rintro ⟨lx113, lx114⟩ H locs ls w118 ⟨i115, i116, V, hl, hI, hF, hO119, hO120, hO121, hO122, hO123, hO124, ⟨fu127, hf128, hR125, hS126⟩⟩ ih117
        obtain ⟨fm129, rfl⟩ : ∃ m, fu127 = m + 1 := ⟨fu127 - 1, by omega⟩
        replace i115 : q_F (0 ≤ lx113.toInt) := i115
        replace i116 : q_F (lx113.toInt ≤ 1000) := i116
        replace hl : lv_has ls 3 [(2, .int lx113), (0, .ref (q 134)), (1, .int x2)] := hl
        replace hO119 : w118[134]? = (some (q 134, .inr (14, [.int y36, .ref (q 135), .int y37, .ref (q 136), .ref (q 137), .ref (q 138), .ref (q 139), .ref (q 140), .int y38, .long y39, .int y40, .int y41, .ref (q 141), .int y42, .ref (q 142), .int y43, .ref (q 143), .int y44, .ref (q 144), .int y45, .int y46])) : Option (Nat × va_E)) := hO119
        replace hO120 : w118[136]? = (some (q 136, .inl (g 0, (10000 : Int32).toNatClampNeg, .inl lx114)) : Option (Nat × va_E)) := hO120
        replace hO121 : w118[137]? = (some (q 137, .inl (g 0, (10 : Int32).toNatClampNeg, .inl t2_0)) : Option (Nat × va_E)) := hO121
        replace hO122 : w118[138]? = (some (q 138, .inl (g 3, 10, .inl t3_0)) : Option (Nat × va_E)) := hO122
        replace hO123 : w118[139]? = (some (q 139, .inl (g 0, (10 : Int32).toNatClampNeg, .inl t4_0)) : Option (Nat × va_E)) := hO123
        replace hO124 : w118[140]? = (some (q 140, .inl (g 0, (4400 : Int32).toNatClampNeg, .inl f47)) : Option (Nat × va_E)) := hO124
        refine lv_iload_n hx hb d_15_8_47 rfl (lv_at hl 0 rfl) ?_
        refine lv_aload_n hx hb d_15_8_48 rfl (lv_at hl 1 rfl) ?_
        refine q_get (ci := 14) (j := 8) (v := .int y38) C0 V i_DR rfl rfl hO119 (by decide) w_2011 rfl d_15_8_49 ?_
        refine lv_icmp_ge (tgt := 79) hx hb d_15_8_52 (by decide) (fun c130 => ?_) (fun c130 => ?_)
        ·
          refine lv_aload_n hx hb d_15_8_79 rfl (lv_at hl 1 rfl) ?_
          refine q_get (ci := 14) (j := 4) (v := .ref (q 137)) C0 V i_DR rfl rfl hO119 (by decide) w_2004 rfl d_15_8_80 ?_
          refine lv_iload_n hx hb d_15_8_83 rfl (lv_at hl 2 rfl) ?_
          refine lv_aload_n hx hb d_15_8_84 rfl (lv_at hl 1 rfl) ?_
          refine q_get (ci := 14) (j := 8) (v := .int y38) C0 V i_DR rfl rfl hO119 (by decide) w_2011 rfl d_15_8_85 ?_
          have ob132 : q_F (0 ≤ x2.toInt) := (by have h := hS126; rw [S_DR_store_L47.eq_2] at h; rw [if_pos c130] at h; exact h.2.1)
          have ob133 : q_F (x2.toInt ≤ 9) := (by have h := hS126; rw [S_DR_store_L47.eq_2] at h; rw [if_pos c130] at h; replace h := q_s2 h; exact h.2.1)
          refine q_iast C0 V hO121 (q_ix (x := x2.toInt) rfl (by first | with_reducible exact q_fe ob132 | (have t1 : 0 ≤ x2.toInt := ob132; omega)) (by have t1 : 0 ≤ x2.toInt := ob132; have t2 : x2.toInt ≤ 9 := ob133; have e9 : (((10 : Int32).toNatClampNeg : Nat) : Int) = 10 := (by decide); omega)) d_15_8_88 (fun H locs w134 hu135 hO121 V => ?_)
          replace hI := n_ai' hI (n_r137 g q).1 hu135 hO121 (q_updB (fun _ => s_bnd) s_bnd)
          replace hO119 := (hu135 _ (by decide)).trans hO119
          replace hO120 := (hu135 _ (by decide)).trans hO120
          replace hO122 := (hu135 _ (by decide)).trans hO122
          replace hO123 := (hu135 _ (by decide)).trans hO123
          replace hO124 := (hu135 _ (by decide)).trans hO124
          replace hF := q_us hF hu135 (by simp)
          obtain ⟨f136, e137⟩ := q_nm (upd t2_0 x2.toNatClampNeg y38 : (Nat → Int32))
          rw [e137] at hO121
          refine lv_aload_n hx hb d_15_8_89 rfl (lv_at hl 1 rfl) ?_
          refine q_get (ci := 14) (j := 5) (v := .ref (q 138)) C0 V i_DR rfl rfl hO119 (by decide) w_2006 rfl d_15_8_90 ?_
          refine lv_iload_n hx hb d_15_8_93 rfl (lv_at hl 2 rfl) ?_
          refine lv_aload_n hx hb d_15_8_94 rfl (lv_at hl 1 rfl) ?_
          refine q_get (ci := 14) (j := 11) (v := .int y41) C0 V i_DR rfl rfl hO119 (by decide) w_2014 rfl d_15_8_95 ?_
          refine q_zast C0 V hO122 (q_ix (x := x2.toInt) rfl (by first | with_reducible exact q_fe ob132 | (have t1 : 0 ≤ x2.toInt := ob132; omega)) (by have t1 : 0 ≤ x2.toInt := ob132; have t2 : x2.toInt ≤ 9 := ob133; omega)) d_15_8_98 (fun H locs w138 hu139 hO122 V => ?_)
          replace hI := n_ai' hI (n_s138 g q) hu139 hO122 (q_updB (fun _ => s_bnd) s_bnd)
          replace hO119 := (hu139 _ (by decide)).trans hO119
          replace hO120 := (hu139 _ (by decide)).trans hO120
          replace hO121 := (hu139 _ (by decide)).trans hO121
          replace hO123 := (hu139 _ (by decide)).trans hO123
          replace hO124 := (hu139 _ (by decide)).trans hO124
          replace hF := q_us hF hu139 (by simp)
          obtain ⟨f140, e141⟩ := q_nm (upd t3_0 x2.toNatClampNeg (vp_nar .boolean y41) : (Nat → Int32))
          rw [e141] at hO122
          refine lv_aload_n hx hb d_15_8_99 rfl (lv_at hl 1 rfl) ?_
          refine q_get (ci := 14) (j := 6) (v := .ref (q 139)) C0 V i_DR rfl rfl hO119 (by decide) w_2008 rfl d_15_8_100 ?_
          refine lv_iload_n hx hb d_15_8_103 rfl (lv_at hl 2 rfl) ?_
          refine lv_aload_n hx hb d_15_8_104 rfl (lv_at hl 1 rfl) ?_
          refine q_get (ci := 14) (j := 9) (v := .long y39) C0 V i_DR rfl rfl hO119 (by decide) w_2012 rfl d_15_8_105 ?_
          refine lv_l2i hx hb d_15_8_108 rfl ?_
          obtain ⟨a142, e143⟩ := q_nm (y39.toInt32 : Int32)
          refine q_ti (v := a142) e143 ?_
          refine q_iast C0 V hO123 (q_ix (x := x2.toInt) rfl (by first | with_reducible exact q_fe ob132 | (have t1 : 0 ≤ x2.toInt := ob132; omega)) (by have t1 : 0 ≤ x2.toInt := ob132; have t2 : x2.toInt ≤ 9 := ob133; have e9 : (((10 : Int32).toNatClampNeg : Nat) : Int) = 10 := (by decide); omega)) d_15_8_109 (fun H locs w145 hu146 hO123 V => ?_)
          replace hI := n_ai' hI (n_r139 g q).1 hu146 hO123 (q_updB (fun _ => s_bnd) s_bnd)
          replace hO119 := (hu146 _ (by decide)).trans hO119
          replace hO120 := (hu146 _ (by decide)).trans hO120
          replace hO121 := (hu146 _ (by decide)).trans hO121
          replace hO122 := (hu146 _ (by decide)).trans hO122
          replace hO124 := (hu146 _ (by decide)).trans hO124
          replace hF := q_us hF hu146 (by simp)
          obtain ⟨f147, e148⟩ := q_nm (upd t4_0 x2.toNatClampNeg a142 : (Nat → Int32))
          rw [e148] at hO123
          exact q_retv C0 V (⟨hI, hF, y36, y37, y38, y39, y40, y41, y42, y43, y44, y45, y46, lx114, f136, f140, f147, f47, hO119, hO120, hO121, hO122, hO123, hO124, (show 0 ≤ y41.toInt from (by first | with_reducible exact q_fe b49 | (have t1 : 0 ≤ y41.toInt := b49; omega))), (show t0_1.toInt ≤ y37.toInt from (by first | with_reducible exact q_fe b52 | (have t1 : t0_1.toInt ≤ y37.toInt := b52; omega))), (show y37.toInt ≤ t0_1.toInt from (by first | with_reducible exact q_fe b53 | (have t1 : y37.toInt ≤ t0_1.toInt := b53; omega))), (show t0_2.toInt ≤ y37.toInt + 24400 from (by first | with_reducible exact q_fe b54 | (have t1 : t0_2.toInt ≤ y37.toInt + 24400 := b54; omega))), (show t0_3.toInt ≤ y39.toInt from (by first | with_reducible exact q_fe b55 | (have t1 : t0_3.toInt ≤ y39.toInt := b55; omega))), (show y39.toInt ≤ t0_3.toInt from (by first | with_reducible exact q_fe b56 | (have t1 : y39.toInt ≤ t0_3.toInt := b56; omega))), (show t0_2.toInt ≤ y40.toInt + 24400 from (by first | with_reducible exact q_fe b57 | (have t1 : t0_2.toInt ≤ y40.toInt + 24400 := b57; omega))), (show t0_4.toInt ≤ y40.toInt from (by first | with_reducible exact q_fe b58 | (have t1 : t0_4.toInt ≤ y40.toInt := b58; omega))), (show y40.toInt ≤ t0_4.toInt from (by first | with_reducible exact q_fe b59 | (have t1 : y40.toInt ≤ t0_4.toInt := b59; omega))), (show t0_2.toInt ≤ y41.toInt + 24400 from (by first | with_reducible exact q_fe b60 | (have t1 : t0_2.toInt ≤ y41.toInt + 24400 := b60; omega))), (show y41.toInt ≤ t0_5.toInt from (by first | with_reducible exact q_fe b61 | (have t1 : y41.toInt ≤ t0_5.toInt := b61; omega))), (show t0_6.toInt ≤ y42.toInt from (by first | with_reducible exact q_fe b62 | (have t1 : t0_6.toInt ≤ y42.toInt := b62; omega))), (show y42.toInt ≤ t0_6.toInt from (by first | with_reducible exact q_fe b63 | (have t1 : y42.toInt ≤ t0_6.toInt := b63; omega))), (show t0_7.toInt ≤ y43.toInt from (by first | with_reducible exact q_fe b64 | (have t1 : t0_7.toInt ≤ y43.toInt := b64; omega))), (show y43.toInt ≤ t0_7.toInt from (by first | with_reducible exact q_fe b65 | (have t1 : y43.toInt ≤ t0_7.toInt := b65; omega))), (show t0_8.toInt ≤ y44.toInt from (by first | with_reducible exact q_fe b66 | (have t1 : t0_8.toInt ≤ y44.toInt := b66; omega))), (show y44.toInt ≤ t0_8.toInt from (by first | with_reducible exact q_fe b67 | (have t1 : y44.toInt ≤ t0_8.toInt := b67; omega))), (show t0_2.toInt ≤ y45.toInt + 24400 from (by first | with_reducible exact q_fe b68 | (have t1 : t0_2.toInt ≤ y45.toInt + 24400 := b68; omega))), (show t0_9.toInt ≤ y45.toInt from (by first | with_reducible exact q_fe b69 | (have t1 : t0_9.toInt ≤ y45.toInt := b69; omega))), (show y45.toInt ≤ t0_9.toInt from (by first | with_reducible exact q_fe b70 | (have t1 : y45.toInt ≤ t0_9.toInt := b70; omega))), (show t0_10.toInt ≤ y46.toInt from (by first | with_reducible exact q_fe b71 | (have t1 : t0_10.toInt ≤ y46.toInt := b71; omega))), (show y46.toInt ≤ t0_10.toInt from (by first | with_reducible exact q_fe b72 | (have t1 : y46.toInt ≤ t0_10.toInt := b72; omega))), (show (y36, y37, y38, y39, y40, y41, y42, y43, y44, y45, y46, lx114, f136, f140, f147, f47) = (F_DR_store x2 t0_0 t0_1 t0_2 t0_3 t0_4 t0_5 t0_6 t0_7 t0_8 t0_9 t0_10 t1_0 t2_0 t3_0 t4_0 t5_0) from Eq.trans (by rw [← e148, ← e143, ← e141, ← e137, F_DR_store_L47.eq_2, if_pos c130]) hR125)⟩) d_15_8_110
        ·
          have b149 : q_F (lx113.toInt < y38.toInt) := (q_nleI c130)
          refine lv_aload_n hx hb d_15_8_55 rfl (lv_at hl 1 rfl) ?_
          refine q_get (ci := 14) (j := 3) (v := .ref (q 136)) C0 V i_DR rfl rfl hO119 (by decide) w_2002 rfl d_15_8_56 ?_
          refine lv_sipush (v := 1000) hx hb d_15_8_59 (by decide) ?_
          refine lv_iload_n hx hb d_15_8_62 rfl (lv_at hl 2 rfl) ?_
          refine lv_imul hx hb d_15_8_63 ?_
          obtain ⟨a150, e151⟩ := q_nm (1000 * x2 : Int32)
          refine q_ti (v := a150) e151 ?_
          refine lv_iload_n hx hb d_15_8_64 rfl (lv_at hl 0 rfl) ?_
          refine lv_iadd hx hb d_15_8_65 ?_
          obtain ⟨a152, e153⟩ := q_nm (a150 + lx113 : Int32)
          refine q_ti (v := a152) e153 ?_
          refine lv_aload_n hx hb d_15_8_66 rfl (lv_at hl 1 rfl) ?_
          refine q_get (ci := 14) (j := 7) (v := .ref (q 140)) C0 V i_DR rfl rfl hO119 (by decide) w_2010 rfl d_15_8_67 ?_
          refine lv_iload_n hx hb d_15_8_70 rfl (lv_at hl 0 rfl) ?_
          refine q_iald C0 V hO124 (q_ix (x := lx113.toInt) rfl (by first | with_reducible exact q_fe i115 | (have t1 : 0 ≤ lx113.toInt := i115; omega)) (by have t1 : 0 ≤ lx113.toInt := i115; have t2 : lx113.toInt ≤ 1000 := i116; have e9 : (((4400 : Int32).toNatClampNeg : Nat) : Int) = 4400 := (by decide); omega)) d_15_8_71 ?_
          obtain ⟨a154, e155⟩ := q_nm (f47 lx113.toNatClampNeg : Int32)
          refine q_ti (v := a154) e155 ?_
          have ob156 : q_F (0 ≤ a152.toInt) := (by rw [← e153, ← e151]; have h := hS126; rw [S_DR_store_L47.eq_2] at h; rw [if_neg c130] at h; exact h.2.1)
          have ob157 : q_F (a152.toInt ≤ 9999) := (by rw [← e153, ← e151]; have h := hS126; rw [S_DR_store_L47.eq_2] at h; rw [if_neg c130] at h; replace h := q_s2 h; exact h.2.1)
          refine q_iast C0 V hO120 (q_ix (x := a152.toInt) rfl (by first | with_reducible exact q_fe ob156 | (have t1 : 0 ≤ a152.toInt := ob156; omega)) (by have t1 : 0 ≤ a152.toInt := ob156; have t2 : a152.toInt ≤ 9999 := ob157; have e9 : (((10000 : Int32).toNatClampNeg : Nat) : Int) = 10000 := (by decide); omega)) d_15_8_72 (fun H locs w158 hu159 hO120 V => ?_)
          replace hI := n_ai' hI (n_r136 g q).1 hu159 hO120 (q_updB (fun _ => s_bnd) s_bnd)
          replace hO119 := (hu159 _ (by decide)).trans hO119
          replace hO121 := (hu159 _ (by decide)).trans hO121
          replace hO122 := (hu159 _ (by decide)).trans hO122
          replace hO123 := (hu159 _ (by decide)).trans hO123
          replace hO124 := (hu159 _ (by decide)).trans hO124
          replace hF := q_us hF hu159 (by simp)
          obtain ⟨f160, e161⟩ := q_nm (upd lx114 a152.toNatClampNeg a154 : (Nat → Int32))
          rw [e161] at hO120
          obtain ⟨a162, e163⟩ := q_nm (lx113 + 1 : Int32)
          have b164 : q_F (a162.toInt = lx113.toInt + 1) := (by rw [← e163]; exact q_addI (y := 1) rfl (by decide) (by have t1 : 0 ≤ lx113.toInt := i115; have t2 : lx113.toInt ≤ 1000 := i116; omega) (by have t1 : 0 ≤ lx113.toInt := i115; have t2 : lx113.toInt ≤ 1000 := i116; omega))
          refine lv_iinc (v := a162) (lv' := [(2, .int a162), (0, .ref (q 134)), (1, .int x2)]) hx hb d_15_8_73 hl (k := 0) rfl (e163) (by decide) rfl (fun ls hl => ?_)
          refine lv_goto (tgt := 47) hx hb d_15_8_76 (by decide) ?_
          exact ih117 ((a162 : Int32), (f160 : (Nat → Int32))) _ _ _ _ (show (1000 - a162.toInt).toNat < (1000 - lx113.toInt).toNat from by have t1 : a162.toInt = lx113.toInt + 1 := b164; have t2 : lx113.toInt ≤ 1000 := i116; have t3 : y38.toInt ≤ 1000 := b98; have t4 : lx113.toInt < y38.toInt := b149; omega) ⟨(show q_F (0 ≤ a162.toInt) from (show 0 ≤ a162.toInt from by have t1 : 0 ≤ lx113.toInt := i115; have t2 : a162.toInt = lx113.toInt + 1 := b164; omega)), (show q_F (a162.toInt ≤ 1000) from (show a162.toInt ≤ 1000 from by have t1 : y38.toInt ≤ 1000 := b98; have t2 : lx113.toInt < y38.toInt := b149; have t3 : a162.toInt = lx113.toInt + 1 := b164; omega)), V, q_lw hl (q_lw1 0 rfl (q_lw1 1 rfl (q_lw1 2 rfl q_lw0))), hI, hF, hO119, hO120, hO121, hO122, hO123, hO124, ⟨fm129, Nat.lt_of_lt_of_le (show (1000 - a162.toInt).toNat < (1000 - lx113.toInt).toNat from by have t1 : a162.toInt = lx113.toInt + 1 := b164; have t2 : lx113.toInt ≤ 1000 := i116; have t3 : y38.toInt ≤ 1000 := b98; have t4 : lx113.toInt < y38.toInt := b149; omega) (Nat.le_of_lt_succ hf128), (show F_DR_store_L47 x2 t0_0 t0_1 t0_2 t0_3 t0_4 t0_5 t0_6 t0_7 t0_8 t0_9 t0_10 t1_0 t2_0 t3_0 t4_0 t5_0 p75 y36 y37 y38 y39 y40 y41 y42 y43 y44 y45 y46 f47 fm129 a162 f160 = (F_DR_store x2 t0_0 t0_1 t0_2 t0_3 t0_4 t0_5 t0_6 t0_7 t0_8 t0_9 t0_10 t1_0 t2_0 t3_0 t4_0 t5_0) from Eq.trans (by rw [← e163, ← e161, ← e155, ← e153, ← e151, F_DR_store_L47.eq_2, if_neg c130]) hR125), (show True ∧ S_DR_store_L47 x2 t0_0 t0_1 t0_2 t0_3 t0_4 t0_5 t0_6 t0_7 t0_8 t0_9 t0_10 t1_0 t2_0 t3_0 t4_0 t5_0 p75 y36 y37 y38 y39 y40 y41 y42 y43 y44 y45 y46 f47 fm129 a162 f160 from (by rw [← e163, ← e161, ← e155, ← e153, ← e151]; have h := hS126; rw [S_DR_store_L47.eq_2] at h; rw [if_neg c130] at h; replace h := q_s2 h; replace h := q_s2 h; with_reducible exact h))⟩⟩
      ·
        refine lv_aload_n hx hb d_15_8_36 rfl (lv_at hl 0 rfl) ?_
        refine lv_aload_n hx hb d_15_8_37 rfl (lv_at hl 0 rfl) ?_
        refine q_get (ci := 14) (j := 20) (v := .int y46) C0 V i_DR rfl rfl hO35 (by decide) w_2024 rfl d_15_8_38 ?_
        refine q_put (ci := 14) (j := 0) (v := .int y46) (ty := .int) C0 V i_DR o_DR n_DR rfl rfl hO35 (by decide) w_1996 rfl rfl rfl rfl (Nat.le_of_ble_eq_true rfl) d_15_8_41 (fun H locs w166 hu167 hO35 V => ?_)
        replace hO35 : w166[134]? = (some (q 134, .inr (14, [.int y46, .ref (q 135), .int y37, .ref (q 136), .ref (q 137), .ref (q 138), .ref (q 139), .ref (q 140), .int y38, .long y39, .int y40, .int y41, .ref (q 141), .int y42, .ref (q 142), .int y43, .ref (q 143), .int y44, .ref (q 144), .int y45, .int y46])) : Option (Nat × va_E)) := hO35
        replace hI := n_p134 hI hu167 hO35 ⟨(by have t1 : 0 ≤ t0_1.toInt ∧ t0_1.toInt ≤ 4100 := btt0_1; have t2 : t0_1.toInt ≤ y37.toInt := b52; omega), (by have t1 : 0 ≤ t0_1.toInt ∧ t0_1.toInt ≤ 4100 := btt0_1; have t2 : y37.toInt ≤ t0_1.toInt := b53; omega)⟩ ⟨(by have t1 : 0 ≤ t0_4.toInt ∧ t0_4.toInt ≤ 1 := btt0_4; have t2 : t0_4.toInt ≤ y40.toInt := b58; omega), (by have t1 : 0 ≤ t0_4.toInt ∧ t0_4.toInt ≤ 1 := btt0_4; have t2 : y40.toInt ≤ t0_4.toInt := b59; omega)⟩ ⟨(by first | with_reducible exact q_fe b49 | (have t1 : 0 ≤ y41.toInt := b49; omega)), (by have t1 : 0 ≤ t0_5.toInt ∧ t0_5.toInt ≤ 1 := btt0_5; have t2 : y41.toInt ≤ t0_5.toInt := b61; omega)⟩ ⟨(by have t1 : 0 ≤ t0_9.toInt ∧ t0_9.toInt ≤ 12200 := btt0_9; have t2 : t0_9.toInt ≤ y45.toInt := b69; omega), (by have t1 : 0 ≤ t0_9.toInt ∧ t0_9.toInt ≤ 12200 := btt0_9; have t2 : y45.toInt ≤ t0_9.toInt := b70; omega)⟩
        replace hT1 := (hu167 _ (by decide)).trans hT1
        replace hT2 := (hu167 _ (by decide)).trans hT2
        replace hT3 := (hu167 _ (by decide)).trans hT3
        replace hT4 := (hu167 _ (by decide)).trans hT4
        replace hA48 := (hu167 _ (by decide)).trans hA48
        replace hF := q_us hF hu167 (by simp)
        exact q_retv C0 V (⟨hI, hF, y46, y37, y38, y39, y40, y41, y42, y43, y44, y45, y46, t1_0, t2_0, t3_0, t4_0, f47, hO35, hT1, hT2, hT3, hT4, hA48, (show 0 ≤ y41.toInt from (by first | with_reducible exact q_fe b49 | (have t1 : 0 ≤ y41.toInt := b49; omega))), (show t0_1.toInt ≤ y37.toInt from (by first | with_reducible exact q_fe b52 | (have t1 : t0_1.toInt ≤ y37.toInt := b52; omega))), (show y37.toInt ≤ t0_1.toInt from (by first | with_reducible exact q_fe b53 | (have t1 : y37.toInt ≤ t0_1.toInt := b53; omega))), (show t0_2.toInt ≤ y37.toInt + 24400 from (by first | with_reducible exact q_fe b54 | (have t1 : t0_2.toInt ≤ y37.toInt + 24400 := b54; omega))), (show t0_3.toInt ≤ y39.toInt from (by first | with_reducible exact q_fe b55 | (have t1 : t0_3.toInt ≤ y39.toInt := b55; omega))), (show y39.toInt ≤ t0_3.toInt from (by first | with_reducible exact q_fe b56 | (have t1 : y39.toInt ≤ t0_3.toInt := b56; omega))), (show t0_2.toInt ≤ y40.toInt + 24400 from (by first | with_reducible exact q_fe b57 | (have t1 : t0_2.toInt ≤ y40.toInt + 24400 := b57; omega))), (show t0_4.toInt ≤ y40.toInt from (by first | with_reducible exact q_fe b58 | (have t1 : t0_4.toInt ≤ y40.toInt := b58; omega))), (show y40.toInt ≤ t0_4.toInt from (by first | with_reducible exact q_fe b59 | (have t1 : y40.toInt ≤ t0_4.toInt := b59; omega))), (show t0_2.toInt ≤ y41.toInt + 24400 from (by first | with_reducible exact q_fe b60 | (have t1 : t0_2.toInt ≤ y41.toInt + 24400 := b60; omega))), (show y41.toInt ≤ t0_5.toInt from (by first | with_reducible exact q_fe b61 | (have t1 : y41.toInt ≤ t0_5.toInt := b61; omega))), (show t0_6.toInt ≤ y42.toInt from (by first | with_reducible exact q_fe b62 | (have t1 : t0_6.toInt ≤ y42.toInt := b62; omega))), (show y42.toInt ≤ t0_6.toInt from (by first | with_reducible exact q_fe b63 | (have t1 : y42.toInt ≤ t0_6.toInt := b63; omega))), (show t0_7.toInt ≤ y43.toInt from (by first | with_reducible exact q_fe b64 | (have t1 : t0_7.toInt ≤ y43.toInt := b64; omega))), (show y43.toInt ≤ t0_7.toInt from (by first | with_reducible exact q_fe b65 | (have t1 : y43.toInt ≤ t0_7.toInt := b65; omega))), (show t0_8.toInt ≤ y44.toInt from (by first | with_reducible exact q_fe b66 | (have t1 : t0_8.toInt ≤ y44.toInt := b66; omega))), (show y44.toInt ≤ t0_8.toInt from (by first | with_reducible exact q_fe b67 | (have t1 : y44.toInt ≤ t0_8.toInt := b67; omega))), (show t0_2.toInt ≤ y45.toInt + 24400 from (by first | with_reducible exact q_fe b68 | (have t1 : t0_2.toInt ≤ y45.toInt + 24400 := b68; omega))), (show t0_9.toInt ≤ y45.toInt from (by first | with_reducible exact q_fe b69 | (have t1 : t0_9.toInt ≤ y45.toInt := b69; omega))), (show y45.toInt ≤ t0_9.toInt from (by first | with_reducible exact q_fe b70 | (have t1 : y45.toInt ≤ t0_9.toInt := b70; omega))), (show t0_10.toInt ≤ y46.toInt from (by first | with_reducible exact q_fe b71 | (have t1 : t0_10.toInt ≤ y46.toInt := b71; omega))), (show y46.toInt ≤ t0_10.toInt from (by first | with_reducible exact q_fe b72 | (have t1 : y46.toInt ≤ t0_10.toInt := b72; omega))), (show (y46, y37, y38, y39, y40, y41, y42, y43, y44, y45, y46, t1_0, t2_0, t3_0, t4_0, f47) = (F_DR_store x2 t0_0 t0_1 t0_2 t0_3 t0_4 t0_5 t0_6 t0_7 t0_8 t0_9 t0_10 t1_0 t2_0 t3_0 t4_0 t5_0) from Eq.trans (by have c94x := c94; rw [e79] at c94x; have c102x := c102; rw [← e100, e80] at c102x; have c110x := c110; rw [← e108, e80] at c110x; rw [e88, e87, e86, e85, e84, e83, e82, e81, e80, e79, e78, F_DR_store_c1.eq_1, if_neg c94x, if_neg c102x, if_neg c110x]) hR89)⟩) d_15_8_44

theorem d_15_21_0 : decode prog_15_method_21_code 0 = .ok (.aload_n 0, 1) := by decide +kernel
theorem d_15_21_1 : decode prog_15_method_21_code 1 = .ok (.iload_n 1, 1) := by decide +kernel
theorem d_15_21_2 : decode prog_15_method_21_code 2 = .ok (.invokestatic 113, 3) := by decide +kernel
set_option maxRecDepth 100000 in
theorem w_2395 : (Cond.code ({ cls := "NumberHouseModel$DecimalRows", name := "no", desc := "(I)Z" } : MethodName) prog_15_method_3_code (1 : Nat) (some .boolean)) ∈ q_tbl := q_of10 235 rfl (by decide +kernel)
set_option maxRecDepth 100000 in
theorem w_2393 : (Cond.methodLink "NumberHouseModel$DecimalRows" (113 : Nat) ({ cls := "NumberHouseModel$DecimalRows", name := "no", desc := "(I)Z" } : MethodName)) ∈ q_tbl := q_of10 233 rfl (by decide +kernel)
set_option maxRecDepth 100000 in
theorem w_2394 : (Cond.static ({ cls := "NumberHouseModel$DecimalRows", name := "no", desc := "(I)Z" } : MethodName)) ∈ q_tbl := q_of10 234 rfl (by decide +kernel)
theorem LS_DR_113 : q_LS "NumberHouseModel$DecimalRows" 113 y_DR_no prog_15_method_3_code 1 (some .boolean) 1 := ⟨w_2395, w_16, w_2393, w_2394, ⟨by decide, by decide, by decide +kernel⟩⟩
theorem d_15_21_24 : decode prog_15_method_21_code 24 = .ok (.putfield 41, 3) := by decide +kernel
theorem d_15_21_27 : decode prog_15_method_21_code 27 = .ok (.aload_n 0, 1) := by decide +kernel
theorem d_15_21_28 : decode prog_15_method_21_code 28 = .ok (.getfield 41, 3) := by decide +kernel
theorem d_15_21_31 : decode prog_15_method_21_code 31 = .ok (.ifCond .ne 32, 3) := by decide +kernel
theorem d_15_21_63 : decode prog_15_method_21_code 63 = .ok (.return_, 1) := by decide +kernel
theorem d_15_21_34 : decode prog_15_method_21_code 34 = .ok (.aload_n 0, 1) := by decide +kernel
theorem d_15_21_35 : decode prog_15_method_21_code 35 = .ok (.iconst 3, 1) := by decide +kernel
theorem d_15_21_36 : decode prog_15_method_21_code 36 = .ok (.putfield 66, 3) := by decide +kernel
theorem d_15_21_39 : decode prog_15_method_21_code 39 = .ok (.aload_n 0, 1) := by decide +kernel
theorem d_15_21_40 : decode prog_15_method_21_code 40 = .ok (.iload_n 1, 1) := by decide +kernel
theorem d_15_21_41 : decode prog_15_method_21_code 41 = .ok (.invokevirtual 89, 3) := by decide +kernel
set_option maxRecDepth 100000 in
theorem w_2412 : (Cond.code ({ cls := "NumberHouseModel$DecimalRows", name := "store", desc := "(I)V" } : MethodName) prog_15_method_8_code (3 : Nat) (none : Option ClassFile.FieldType)) ∈ q_tbl := q_of11 12 rfl (by decide +kernel)
set_option maxRecDepth 100000 in
theorem w_2409 : (Cond.methodLink "NumberHouseModel$DecimalRows" (89 : Nat) ({ cls := "NumberHouseModel$DecimalRows", name := "store", desc := "(I)V" } : MethodName)) ∈ q_tbl := q_of11 9 rfl (by decide +kernel)
set_option maxRecDepth 100000 in
theorem w_2411 : (Cond.instanceMethod ({ cls := "NumberHouseModel$DecimalRows", name := "store", desc := "(I)V" } : MethodName)) ∈ q_tbl := q_of11 11 rfl (by decide +kernel)
theorem ws_63 : Cond.selects "NumberHouseModel$DecimalRows" (⟨"NumberHouseModel$DecimalRows", "store", "(I)V"⟩ : MethodName) (⟨"NumberHouseModel$DecimalRows", "store", "(I)V"⟩ : MethodName) ∈ q_tbl := q_ofs 63 (by decide +kernel) (by decide +kernel)
theorem LV_DR_89 : q_LV "NumberHouseModel$DecimalRows" 89 y_DR_store prog_15_method_8_code 3 none 1 := ⟨w_2412, w_16, w_2409, w_2411, ws_63, ⟨by decide, by decide, by decide +kernel⟩⟩
theorem d_15_21_44 : decode prog_15_method_21_code 44 = .ok (.aload_n 0, 1) := by decide +kernel
theorem d_15_21_45 : decode prog_15_method_21_code 45 = .ok (.aload_n 0, 1) := by decide +kernel
theorem d_15_21_46 : decode prog_15_method_21_code 46 = .ok (.getfield 41, 3) := by decide +kernel
theorem d_15_21_49 : decode prog_15_method_21_code 49 = .ok (.ifCond .ne 7, 3) := by decide +kernel
theorem d_15_21_56 : decode prog_15_method_21_code 56 = .ok (.aload_n 0, 1) := by decide +kernel
theorem d_15_21_57 : decode prog_15_method_21_code 57 = .ok (.getfield 99, 3) := by decide +kernel
theorem d_15_21_60 : decode prog_15_method_21_code 60 = .ok (.putfield 99, 3) := by decide +kernel
theorem d_15_21_52 : decode prog_15_method_21_code 52 = .ok (.iconst 0, 1) := by decide +kernel
theorem d_15_21_53 : decode prog_15_method_21_code 53 = .ok (.goto 7, 3) := by decide +kernel
theorem d_15_21_5 : decode prog_15_method_21_code 5 = .ok (.ifCond .eq 7, 3) := by decide +kernel
theorem d_15_21_12 : decode prog_15_method_21_code 12 = .ok (.aload_n 0, 1) := by decide +kernel
theorem d_15_21_13 : decode prog_15_method_21_code 13 = .ok (.invokevirtual 116, 3) := by decide +kernel
set_option maxRecDepth 100000 in
theorem w_2399 : (Cond.code ({ cls := "NumberHouseModel$DecimalRows", name := "says", desc := "()Z" } : MethodName) prog_15_method_20_code (7 : Nat) (some .boolean)) ∈ q_tbl := q_of10 239 rfl (by decide +kernel)
set_option maxRecDepth 100000 in
theorem w_2396 : (Cond.methodLink "NumberHouseModel$DecimalRows" (116 : Nat) ({ cls := "NumberHouseModel$DecimalRows", name := "says", desc := "()Z" } : MethodName)) ∈ q_tbl := q_of10 236 rfl (by decide +kernel)
set_option maxRecDepth 100000 in
theorem w_2398 : (Cond.instanceMethod ({ cls := "NumberHouseModel$DecimalRows", name := "says", desc := "()Z" } : MethodName)) ∈ q_tbl := q_of10 238 rfl (by decide +kernel)
theorem ws_61 : Cond.selects "NumberHouseModel$DecimalRows" (⟨"NumberHouseModel$DecimalRows", "says", "()Z"⟩ : MethodName) (⟨"NumberHouseModel$DecimalRows", "says", "()Z"⟩ : MethodName) ∈ q_tbl := q_ofs 61 (by decide +kernel) (by decide +kernel)
theorem LV_DR_116 : q_LV "NumberHouseModel$DecimalRows" 116 y_DR_says prog_15_method_20_code 7 (some .boolean) 0 := ⟨w_2399, w_16, w_2396, w_2398, ws_61, ⟨by decide, by decide, by decide +kernel⟩⟩
theorem d_15_21_16 : decode prog_15_method_21_code 16 = .ok (.ifCond .ne 7, 3) := by decide +kernel
theorem d_15_21_23 : decode prog_15_method_21_code 23 = .ok (.iconst 0, 1) := by decide +kernel
theorem d_15_21_19 : decode prog_15_method_21_code 19 = .ok (.iconst 2, 1) := by decide +kernel
theorem d_15_21_20 : decode prog_15_method_21_code 20 = .ok (.goto 4, 3) := by decide +kernel
theorem d_15_21_8 : decode prog_15_method_21_code 8 = .ok (.iconst 1, 1) := by decide +kernel
theorem d_15_21_9 : decode prog_15_method_21_code 9 = .ok (.goto 15, 3) := by decide +kernel
def y_DR_read : MethodName := ⟨"NumberHouseModel$DecimalRows", "read", "(I)V"⟩
def F_DR_read_c41 (x2 : Int32) (t0_0 : Int32) (t0_1 : Int32) (t0_2 : Int32) (t0_3 : Int64) (t0_4 : Int32) (t0_5 : Int32) (t0_6 : Int32) (t0_7 : Int32) (t0_8 : Int32) (t0_9 : Int32) (t0_10 : Int32) (t1_0 : (Nat → Int32)) (t2_0 : (Nat → Int32)) (t3_0 : (Nat → Int32)) (t4_0 : (Nat → Int32)) (t5_0 : (Nat → Int32)) (t6_0 : (Nat → Int32)) (lx42 : Int32) (lx43 : Int32) (lx44 : Int32) (lx45 : Int32) (lx46 : Int64) (lx47 : Int32) (lx48 : Int32) (lx49 : Int32) (lx50 : Int32) (lx51 : Int32) (lx52 : Int32) (lx53 : Int32) (lx54 : (Nat → Int32)) (p145 : (Int32 × Int32 × Int32 × Int64 × Int32 × Int32 × Int32 × Int32 × Int32 × Int32 × Int32 × (Nat → Int32) × (Nat → Int32) × (Nat → Int32) × (Nat → Int32) × (Nat → Int32))) : Int32 × Int32 × Int32 × Int64 × Int32 × Int32 × Int32 × Int32 × Int32 × Int32 × Int32 × (Nat → Int32) × (Nat → Int32) × (Nat → Int32) × (Nat → Int32) × (Nat → Int32) := if (p145.1 : Int32) = (0 : Int32) then (((p145.1 : Int32), (0 : Int32), (p145.2.2.1 : Int32), (p145.2.2.2.1 : Int64), (p145.2.2.2.2.1 : Int32), (p145.2.2.2.2.2.1 : Int32), (p145.2.2.2.2.2.2.1 : Int32), (p145.2.2.2.2.2.2.2.1 : Int32), (p145.2.2.2.2.2.2.2.2.1 : Int32), (p145.2.2.2.2.2.2.2.2.2.1 : Int32), (p145.2.2.2.2.2.2.2.2.2.2.1 : Int32), (p145.2.2.2.2.2.2.2.2.2.2.2.1 : (Nat → Int32)), (p145.2.2.2.2.2.2.2.2.2.2.2.2.1 : (Nat → Int32)), (p145.2.2.2.2.2.2.2.2.2.2.2.2.2.1 : (Nat → Int32)), (p145.2.2.2.2.2.2.2.2.2.2.2.2.2.2.1 : (Nat → Int32)), (p145.2.2.2.2.2.2.2.2.2.2.2.2.2.2.2 : (Nat → Int32)))) else (((p145.1 : Int32), (p145.2.1 : Int32), (p145.2.2.1 : Int32), (p145.2.2.2.1 : Int64), (p145.2.2.2.2.1 : Int32), (p145.2.2.2.2.2.1 : Int32), (p145.2.2.2.2.2.2.1 : Int32), (p145.2.2.2.2.2.2.2.1 : Int32), (p145.2.2.2.2.2.2.2.2.1 : Int32), (p145.2.2.2.2.2.2.2.2.2.1 : Int32), (p145.2.2.2.2.2.2.2.2.2.2.1 : Int32), (p145.2.2.2.2.2.2.2.2.2.2.2.1 : (Nat → Int32)), (p145.2.2.2.2.2.2.2.2.2.2.2.2.1 : (Nat → Int32)), (p145.2.2.2.2.2.2.2.2.2.2.2.2.2.1 : (Nat → Int32)), (p145.2.2.2.2.2.2.2.2.2.2.2.2.2.2.1 : (Nat → Int32)), (p145.2.2.2.2.2.2.2.2.2.2.2.2.2.2.2 : (Nat → Int32))))
def F_DR_read_J24 (x2 : Int32) (t0_0 : Int32) (t0_1 : Int32) (t0_2 : Int32) (t0_3 : Int64) (t0_4 : Int32) (t0_5 : Int32) (t0_6 : Int32) (t0_7 : Int32) (t0_8 : Int32) (t0_9 : Int32) (t0_10 : Int32) (t1_0 : (Nat → Int32)) (t2_0 : (Nat → Int32)) (t3_0 : (Nat → Int32)) (t4_0 : (Nat → Int32)) (t5_0 : (Nat → Int32)) (t6_0 : (Nat → Int32)) (lx42 : Int32) (lx43 : Int32) (lx44 : Int32) (lx45 : Int32) (lx46 : Int64) (lx47 : Int32) (lx48 : Int32) (lx49 : Int32) (lx50 : Int32) (lx51 : Int32) (lx52 : Int32) (lx53 : Int32) (lx54 : (Nat → Int32)) : Int32 × Int32 × Int32 × Int64 × Int32 × Int32 × Int32 × Int32 × Int32 × Int32 × Int32 × (Nat → Int32) × (Nat → Int32) × (Nat → Int32) × (Nat → Int32) × (Nat → Int32) := if lx42 = (0 : Int32) then (F_DR_read_c41 x2 t0_0 t0_1 t0_2 t0_3 t0_4 t0_5 t0_6 t0_7 t0_8 t0_9 t0_10 t1_0 t2_0 t3_0 t4_0 t5_0 t6_0 lx42 lx43 lx44 lx45 lx46 lx47 lx48 lx49 lx50 lx51 lx52 lx53 lx54 ((F_DR_store x2 lx42 lx44 lx45 lx46 lx47 lx48 lx49 lx50 lx51 lx52 (3 : Int32) t2_0 t3_0 t4_0 t5_0 lx54) : (Int32 × Int32 × Int32 × Int64 × Int32 × Int32 × Int32 × Int32 × Int32 × Int32 × Int32 × (Nat → Int32) × (Nat → Int32) × (Nat → Int32) × (Nat → Int32) × (Nat → Int32)))) else ((lx42, lx44, lx45, lx46, lx47, lx48, lx49, lx50, lx51, lx52, lx53, t2_0, t3_0, t4_0, t5_0, lx54))
def F_DR_read_c13 (x2 : Int32) (t0_0 : Int32) (t0_1 : Int32) (t0_2 : Int32) (t0_3 : Int64) (t0_4 : Int32) (t0_5 : Int32) (t0_6 : Int32) (t0_7 : Int32) (t0_8 : Int32) (t0_9 : Int32) (t0_10 : Int32) (t1_0 : (Nat → Int32)) (t2_0 : (Nat → Int32)) (t3_0 : (Nat → Int32)) (t4_0 : (Nat → Int32)) (t5_0 : (Nat → Int32)) (t6_0 : (Nat → Int32)) (p219 : (Int32 × Int32 × Int32 × Int32 × Int64 × Int32 × Int32 × Int32 × Int32 × Int32 × Int32 × Int32 × (Nat → Int32))) : Int32 × Int32 × Int32 × Int64 × Int32 × Int32 × Int32 × Int32 × Int32 × Int32 × Int32 × (Nat → Int32) × (Nat → Int32) × (Nat → Int32) × (Nat → Int32) × (Nat → Int32) := if (p219.1 : Int32) = (0 : Int32) then (F_DR_read_J24 x2 t0_0 t0_1 t0_2 t0_3 t0_4 t0_5 t0_6 t0_7 t0_8 t0_9 t0_10 t1_0 t2_0 t3_0 t4_0 t5_0 t6_0 2 (p219.2.1 : Int32) (p219.2.2.1 : Int32) (p219.2.2.2.1 : Int32) (p219.2.2.2.2.1 : Int64) (p219.2.2.2.2.2.1 : Int32) (p219.2.2.2.2.2.2.1 : Int32) (p219.2.2.2.2.2.2.2.1 : Int32) (p219.2.2.2.2.2.2.2.2.1 : Int32) (p219.2.2.2.2.2.2.2.2.2.1 : Int32) (p219.2.2.2.2.2.2.2.2.2.2.1 : Int32) (p219.2.2.2.2.2.2.2.2.2.2.2.1 : Int32) (p219.2.2.2.2.2.2.2.2.2.2.2.2 : (Nat → Int32))) else (F_DR_read_J24 x2 t0_0 t0_1 t0_2 t0_3 t0_4 t0_5 t0_6 t0_7 t0_8 t0_9 t0_10 t1_0 t2_0 t3_0 t4_0 t5_0 t6_0 0 (p219.2.1 : Int32) (p219.2.2.1 : Int32) (p219.2.2.2.1 : Int32) (p219.2.2.2.2.1 : Int64) (p219.2.2.2.2.2.1 : Int32) (p219.2.2.2.2.2.2.1 : Int32) (p219.2.2.2.2.2.2.2.1 : Int32) (p219.2.2.2.2.2.2.2.2.1 : Int32) (p219.2.2.2.2.2.2.2.2.2.1 : Int32) (p219.2.2.2.2.2.2.2.2.2.2.1 : Int32) (p219.2.2.2.2.2.2.2.2.2.2.2.1 : Int32) (p219.2.2.2.2.2.2.2.2.2.2.2.2 : (Nat → Int32)))
def F_DR_read (x2 : Int32) (t0_0 : Int32) (t0_1 : Int32) (t0_2 : Int32) (t0_3 : Int64) (t0_4 : Int32) (t0_5 : Int32) (t0_6 : Int32) (t0_7 : Int32) (t0_8 : Int32) (t0_9 : Int32) (t0_10 : Int32) (t1_0 : (Nat → Int32)) (t2_0 : (Nat → Int32)) (t3_0 : (Nat → Int32)) (t4_0 : (Nat → Int32)) (t5_0 : (Nat → Int32)) (t6_0 : (Nat → Int32)) : Int32 × Int32 × Int32 × Int64 × Int32 × Int32 × Int32 × Int32 × Int32 × Int32 × Int32 × (Nat → Int32) × (Nat → Int32) × (Nat → Int32) × (Nat → Int32) × (Nat → Int32) := if ((F_DR_no x2) : Int32) = (0 : Int32) then (F_DR_read_c13 x2 t0_0 t0_1 t0_2 t0_3 t0_4 t0_5 t0_6 t0_7 t0_8 t0_9 t0_10 t1_0 t2_0 t3_0 t4_0 t5_0 t6_0 ((F_DR_says t0_0 t0_1 t0_2 t0_3 t0_4 t0_5 t0_6 t0_7 t0_8 t0_9 t0_10 t1_0 t6_0) : (Int32 × Int32 × Int32 × Int32 × Int64 × Int32 × Int32 × Int32 × Int32 × Int32 × Int32 × Int32 × (Nat → Int32)))) else (F_DR_read_J24 x2 t0_0 t0_1 t0_2 t0_3 t0_4 t0_5 t0_6 t0_7 t0_8 t0_9 t0_10 t1_0 t2_0 t3_0 t4_0 t5_0 t6_0 1 t0_0 t0_1 t0_2 t0_3 t0_4 t0_5 t0_6 t0_7 t0_8 t0_9 t0_10 t6_0)
def S_DR_read_c41 (x2 : Int32) (t0_0 : Int32) (t0_1 : Int32) (t0_2 : Int32) (t0_3 : Int64) (t0_4 : Int32) (t0_5 : Int32) (t0_6 : Int32) (t0_7 : Int32) (t0_8 : Int32) (t0_9 : Int32) (t0_10 : Int32) (t1_0 : (Nat → Int32)) (t2_0 : (Nat → Int32)) (t3_0 : (Nat → Int32)) (t4_0 : (Nat → Int32)) (t5_0 : (Nat → Int32)) (t6_0 : (Nat → Int32)) (lx42 : Int32) (lx43 : Int32) (lx44 : Int32) (lx45 : Int32) (lx46 : Int64) (lx47 : Int32) (lx48 : Int32) (lx49 : Int32) (lx50 : Int32) (lx51 : Int32) (lx52 : Int32) (lx53 : Int32) (lx54 : (Nat → Int32)) (p145 : (Int32 × Int32 × Int32 × Int64 × Int32 × Int32 × Int32 × Int32 × Int32 × Int32 × Int32 × (Nat → Int32) × (Nat → Int32) × (Nat → Int32) × (Nat → Int32) × (Nat → Int32))) : Prop := if (p145.1 : Int32) = (0 : Int32) then (True) else (True)
def S_DR_read_J24 (x2 : Int32) (t0_0 : Int32) (t0_1 : Int32) (t0_2 : Int32) (t0_3 : Int64) (t0_4 : Int32) (t0_5 : Int32) (t0_6 : Int32) (t0_7 : Int32) (t0_8 : Int32) (t0_9 : Int32) (t0_10 : Int32) (t1_0 : (Nat → Int32)) (t2_0 : (Nat → Int32)) (t3_0 : (Nat → Int32)) (t4_0 : (Nat → Int32)) (t5_0 : (Nat → Int32)) (t6_0 : (Nat → Int32)) (lx42 : Int32) (lx43 : Int32) (lx44 : Int32) (lx45 : Int32) (lx46 : Int64) (lx47 : Int32) (lx48 : Int32) (lx49 : Int32) (lx50 : Int32) (lx51 : Int32) (lx52 : Int32) (lx53 : Int32) (lx54 : (Nat → Int32)) : Prop := if lx42 = (0 : Int32) then ((True ∧ S_DR_store x2 lx42 lx44 lx45 lx46 lx47 lx48 lx49 lx50 lx51 lx52 (3 : Int32) t2_0 t3_0 t4_0 t5_0 lx54) ∧ (S_DR_read_c41 x2 t0_0 t0_1 t0_2 t0_3 t0_4 t0_5 t0_6 t0_7 t0_8 t0_9 t0_10 t1_0 t2_0 t3_0 t4_0 t5_0 t6_0 lx42 lx43 lx44 lx45 lx46 lx47 lx48 lx49 lx50 lx51 lx52 lx53 lx54 ((F_DR_store x2 lx42 lx44 lx45 lx46 lx47 lx48 lx49 lx50 lx51 lx52 (3 : Int32) t2_0 t3_0 t4_0 t5_0 lx54) : (Int32 × Int32 × Int32 × Int64 × Int32 × Int32 × Int32 × Int32 × Int32 × Int32 × Int32 × (Nat → Int32) × (Nat → Int32) × (Nat → Int32) × (Nat → Int32) × (Nat → Int32))))) else (True)
def S_DR_read_c13 (x2 : Int32) (t0_0 : Int32) (t0_1 : Int32) (t0_2 : Int32) (t0_3 : Int64) (t0_4 : Int32) (t0_5 : Int32) (t0_6 : Int32) (t0_7 : Int32) (t0_8 : Int32) (t0_9 : Int32) (t0_10 : Int32) (t1_0 : (Nat → Int32)) (t2_0 : (Nat → Int32)) (t3_0 : (Nat → Int32)) (t4_0 : (Nat → Int32)) (t5_0 : (Nat → Int32)) (t6_0 : (Nat → Int32)) (p219 : (Int32 × Int32 × Int32 × Int32 × Int64 × Int32 × Int32 × Int32 × Int32 × Int32 × Int32 × Int32 × (Nat → Int32))) : Prop := if (p219.1 : Int32) = (0 : Int32) then (S_DR_read_J24 x2 t0_0 t0_1 t0_2 t0_3 t0_4 t0_5 t0_6 t0_7 t0_8 t0_9 t0_10 t1_0 t2_0 t3_0 t4_0 t5_0 t6_0 2 (p219.2.1 : Int32) (p219.2.2.1 : Int32) (p219.2.2.2.1 : Int32) (p219.2.2.2.2.1 : Int64) (p219.2.2.2.2.2.1 : Int32) (p219.2.2.2.2.2.2.1 : Int32) (p219.2.2.2.2.2.2.2.1 : Int32) (p219.2.2.2.2.2.2.2.2.1 : Int32) (p219.2.2.2.2.2.2.2.2.2.1 : Int32) (p219.2.2.2.2.2.2.2.2.2.2.1 : Int32) (p219.2.2.2.2.2.2.2.2.2.2.2.1 : Int32) (p219.2.2.2.2.2.2.2.2.2.2.2.2 : (Nat → Int32))) else (S_DR_read_J24 x2 t0_0 t0_1 t0_2 t0_3 t0_4 t0_5 t0_6 t0_7 t0_8 t0_9 t0_10 t1_0 t2_0 t3_0 t4_0 t5_0 t6_0 0 (p219.2.1 : Int32) (p219.2.2.1 : Int32) (p219.2.2.2.1 : Int32) (p219.2.2.2.2.1 : Int64) (p219.2.2.2.2.2.1 : Int32) (p219.2.2.2.2.2.2.1 : Int32) (p219.2.2.2.2.2.2.2.1 : Int32) (p219.2.2.2.2.2.2.2.2.1 : Int32) (p219.2.2.2.2.2.2.2.2.2.1 : Int32) (p219.2.2.2.2.2.2.2.2.2.2.1 : Int32) (p219.2.2.2.2.2.2.2.2.2.2.2.1 : Int32) (p219.2.2.2.2.2.2.2.2.2.2.2.2 : (Nat → Int32)))
def S_DR_read (x2 : Int32) (t0_0 : Int32) (t0_1 : Int32) (t0_2 : Int32) (t0_3 : Int64) (t0_4 : Int32) (t0_5 : Int32) (t0_6 : Int32) (t0_7 : Int32) (t0_8 : Int32) (t0_9 : Int32) (t0_10 : Int32) (t1_0 : (Nat → Int32)) (t2_0 : (Nat → Int32)) (t3_0 : (Nat → Int32)) (t4_0 : (Nat → Int32)) (t5_0 : (Nat → Int32)) (t6_0 : (Nat → Int32)) : Prop := if ((F_DR_no x2) : Int32) = (0 : Int32) then ((True ∧ S_DR_says t0_0 t0_1 t0_2 t0_3 t0_4 t0_5 t0_6 t0_7 t0_8 t0_9 t0_10 t1_0 t6_0) ∧ (S_DR_read_c13 x2 t0_0 t0_1 t0_2 t0_3 t0_4 t0_5 t0_6 t0_7 t0_8 t0_9 t0_10 t1_0 t2_0 t3_0 t4_0 t5_0 t6_0 ((F_DR_says t0_0 t0_1 t0_2 t0_3 t0_4 t0_5 t0_6 t0_7 t0_8 t0_9 t0_10 t1_0 t6_0) : (Int32 × Int32 × Int32 × Int32 × Int64 × Int32 × Int32 × Int32 × Int32 × Int32 × Int32 × Int32 × (Nat → Int32))))) else (S_DR_read_J24 x2 t0_0 t0_1 t0_2 t0_3 t0_4 t0_5 t0_6 t0_7 t0_8 t0_9 t0_10 t1_0 t2_0 t3_0 t4_0 t5_0 t6_0 1 t0_0 t0_1 t0_2 t0_3 t0_4 t0_5 t0_6 t0_7 t0_8 t0_9 t0_10 t6_0)
set_option maxRecDepth 100000 in
set_option maxHeartbeats 4000000 in
theorem X_DR_read (l : Launch) (D : va_G) (g : Nat → ClassId) (q : Nat → Nat) (ws : va_W) (x2 : Int32) (hI : q_I (msh g q) q ws) (t0_0 : Int32) (t0_1 : Int32) (t0_2 : Int32) (t0_3 : Int64) (t0_4 : Int32) (t0_5 : Int32) (t0_6 : Int32) (t0_7 : Int32) (t0_8 : Int32) (t0_9 : Int32) (t0_10 : Int32) (hT0 : ws[134]? = (some (q 134, .inr (14, [.int t0_0, .ref (q 135), .int t0_1, .ref (q 136), .ref (q 137), .ref (q 138), .ref (q 139), .ref (q 140), .int t0_2, .long t0_3, .int t0_4, .int t0_5, .ref (q 141), .int t0_6, .ref (q 142), .int t0_7, .ref (q 143), .int t0_8, .ref (q 144), .int t0_9, .int t0_10])) : Option (Nat × va_E))) (t1_0 : (Nat → Int32)) (hT1 : ws[135]? = (some (q 135, .inl (g 0, (4100 : Int32).toNatClampNeg, .inl t1_0)) : Option (Nat × va_E))) (t2_0 : (Nat → Int32)) (hT2 : ws[136]? = (some (q 136, .inl (g 0, (10000 : Int32).toNatClampNeg, .inl t2_0)) : Option (Nat × va_E))) (t3_0 : (Nat → Int32)) (hT3 : ws[137]? = (some (q 137, .inl (g 0, (10 : Int32).toNatClampNeg, .inl t3_0)) : Option (Nat × va_E))) (t4_0 : (Nat → Int32)) (hT4 : ws[138]? = (some (q 138, .inl (g 3, 10, .inl t4_0)) : Option (Nat × va_E))) (t5_0 : (Nat → Int32)) (hT5 : ws[139]? = (some (q 139, .inl (g 0, (10 : Int32).toNatClampNeg, .inl t5_0)) : Option (Nat × va_E))) (t6_0 : (Nat → Int32)) (hT6 : ws[140]? = (some (q 140, .inl (g 0, (4400 : Int32).toNatClampNeg, .inl t6_0)) : Option (Nat × va_E))) (hS : True ∧ S_DR_read x2 t0_0 t0_1 t0_2 t0_3 t0_4 t0_5 t0_6 t0_7 t0_8 t0_9 t0_10 t1_0 t2_0 t3_0 t4_0 t5_0 t6_0) : q_mV l y_DR_read prog_15_method_21_code 2 3 0 0 D g [.ref (q 134), .int x2] ws (fun u => q_I (msh g q) q u ∧ q_un ws u [134, 136, 137, 138, 139, 140] ∧ ∃ (u0_0 : Int32) (u0_1 : Int32) (u0_2 : Int32) (u0_3 : Int64) (u0_4 : Int32) (u0_5 : Int32) (u0_6 : Int32) (u0_7 : Int32) (u0_8 : Int32) (u0_9 : Int32) (u0_10 : Int32) (u2_0 : (Nat → Int32)) (u3_0 : (Nat → Int32)) (u4_0 : (Nat → Int32)) (u5_0 : (Nat → Int32)) (u6_0 : (Nat → Int32)), u[134]? = (some (q 134, .inr (14, [.int u0_0, .ref (q 135), .int u0_1, .ref (q 136), .ref (q 137), .ref (q 138), .ref (q 139), .ref (q 140), .int u0_2, .long u0_3, .int u0_4, .int u0_5, .ref (q 141), .int u0_6, .ref (q 142), .int u0_7, .ref (q 143), .int u0_8, .ref (q 144), .int u0_9, .int u0_10])) : Option (Nat × va_E)) ∧ u[136]? = (some (q 136, .inl (g 0, (10000 : Int32).toNatClampNeg, .inl u2_0)) : Option (Nat × va_E)) ∧ u[137]? = (some (q 137, .inl (g 0, (10 : Int32).toNatClampNeg, .inl u3_0)) : Option (Nat × va_E)) ∧ u[138]? = (some (q 138, .inl (g 3, 10, .inl u4_0)) : Option (Nat × va_E)) ∧ u[139]? = (some (q 139, .inl (g 0, (10 : Int32).toNatClampNeg, .inl u5_0)) : Option (Nat × va_E)) ∧ u[140]? = (some (q 140, .inl (g 0, (4400 : Int32).toNatClampNeg, .inl u6_0)) : Option (Nat × va_E)) ∧ (0 ≤ u0_1.toInt) ∧ (0 ≤ u0_4.toInt) ∧ (0 ≤ u0_5.toInt) ∧ (u0_5.toInt ≤ 1) ∧ (u0_1.toInt ≤ t0_1.toInt) ∧ (u0_4.toInt ≤ t0_4.toInt) ∧ (t0_6.toInt ≤ u0_6.toInt) ∧ (u0_6.toInt ≤ t0_6.toInt) ∧ (t0_7.toInt ≤ u0_7.toInt) ∧ (u0_7.toInt ≤ t0_7.toInt) ∧ (t0_8.toInt ≤ u0_8.toInt) ∧ (u0_8.toInt ≤ t0_8.toInt) ∧ (t0_9.toInt ≤ u0_9.toInt) ∧ (u0_9.toInt ≤ t0_9.toInt) ∧ (u0_0, u0_1, u0_2, u0_3, u0_4, u0_5, u0_6, u0_7, u0_8, u0_9, u0_10, u2_0, u3_0, u4_0, u5_0, u6_0) = (F_DR_read x2 t0_0 t0_1 t0_2 t0_3 t0_4 t0_5 t0_6 t0_7 t0_8 t0_9 t0_10 t1_0 t2_0 t3_0 t4_0 t5_0 t6_0)) := by
  intro sz
  refine q_into (by decide) (Nat.le_of_ble_eq_true rfl) ?_
  intro p e s m below meth c ls hsz C0 V hl
  have hx := C0.1
  have hb := C0.2.1
  obtain ⟨btt0_1, hZ9⟩ := n_w134 hI hT0
  obtain ⟨btt0_4, hZ9⟩ := hZ9
  obtain ⟨btt0_5, btt0_9⟩ := hZ9
  replace btt0_1 : q_F (0 ≤ t0_1.toInt ∧ t0_1.toInt ≤ 4100) := btt0_1
  replace btt0_4 : q_F (0 ≤ t0_4.toInt ∧ t0_4.toInt ≤ 1) := btt0_4
  replace btt0_5 : q_F (0 ≤ t0_5.toInt ∧ t0_5.toInt ≤ 1) := btt0_5
  replace btt0_9 : q_F (0 ≤ t0_9.toInt ∧ t0_9.toInt ≤ 12200) := btt0_9
  have hF : q_un ws ws [134, 136, 137, 138, 139, 140] := q_u0
  have hl : lv_has ls 2 [(0, .ref (q 134)), (1, .int x2)] := hl
  refine lv_aload_n hx hb d_15_21_0 rfl (lv_at hl 0 rfl) ?_
  refine lv_iload_n hx hb d_15_21_1 rfl (lv_at hl 1 rfl) ?_
  refine q_goi V (q_runS (As := [.int x2]) (rest := [.ref (q 134)]) (d := 1) (mc := 0) (ms := 0) C0 V rfl LS_DR_113 (X_DR_no l D g q ws  x2 hI   _) rfl hl.1 rfl (Nat.le_of_ble_eq_true rfl) ⟨by decide, by decide⟩ ⟨Nat.le_of_ble_eq_true rfl, Nat.le_of_ble_eq_true rfl⟩ d_15_21_2) (fun a37 u35 H locs hp36 V => ?_)
  obtain ⟨rfl, b38, b39, hE40⟩ := hp36
  have e41 : a37 = (F_DR_no x2) := hE40
  clear b38
  replace b39 : q_F (a37.toInt ≤ 1) := b39
  refine q_join (X := Int32 × Int32 × Int32 × Int32 × Int64 × Int32 × Int32 × Int32 × Int32 × Int32 × Int32 × Int32 × (Nat → Int32)) (fun z H locs ls w83 => q_F (z.1.toInt ≤ 2) ∧ q_F (0 ≤ z.2.2.2.2.2.1.toInt) ∧ q_F (0 ≤ z.2.2.2.2.2.2.1.toInt) ∧ q_F (z.2.2.2.2.2.2.1.toInt ≤ 1) ∧ q_F (a37.toInt ≤ z.1.toInt) ∧ q_F (t0_0.toInt ≤ z.2.1.toInt) ∧ q_F (z.2.1.toInt ≤ t0_0.toInt) ∧ q_F (t0_1.toInt ≤ z.2.2.1.toInt) ∧ q_F (z.2.2.1.toInt ≤ t0_1.toInt) ∧ q_F (z.2.2.2.2.2.1.toInt ≤ t0_4.toInt) ∧ q_F (t0_6.toInt ≤ z.2.2.2.2.2.2.2.1.toInt) ∧ q_F (z.2.2.2.2.2.2.2.1.toInt ≤ t0_6.toInt) ∧ q_F (t0_7.toInt ≤ z.2.2.2.2.2.2.2.2.1.toInt) ∧ q_F (z.2.2.2.2.2.2.2.2.1.toInt ≤ t0_7.toInt) ∧ q_F (t0_8.toInt ≤ z.2.2.2.2.2.2.2.2.2.1.toInt) ∧ q_F (z.2.2.2.2.2.2.2.2.2.1.toInt ≤ t0_8.toInt) ∧ q_F (t0_9.toInt ≤ z.2.2.2.2.2.2.2.2.2.2.1.toInt) ∧ q_F (z.2.2.2.2.2.2.2.2.2.2.1.toInt ≤ t0_9.toInt) ∧ q_F (t0_10.toInt ≤ z.2.2.2.2.2.2.2.2.2.2.2.1.toInt) ∧ q_F (z.2.2.2.2.2.2.2.2.2.2.2.1.toInt ≤ t0_10.toInt) ∧ q_Wd D g (va_A ws sz) s w83 H locs ∧ lv_has ls 2 [(0, .ref (q 134)), (1, .int x2)] ∧ q_I (msh g q) q w83 ∧ q_un ws w83 [134, 136, 137, 138, 139, 140] ∧ w83[134]? = (some (q 134, .inr (14, [.int z.2.1, .ref (q 135), .int z.2.2.1, .ref (q 136), .ref (q 137), .ref (q 138), .ref (q 139), .ref (q 140), .int z.2.2.2.1, .long z.2.2.2.2.1, .int z.2.2.2.2.2.1, .int z.2.2.2.2.2.2.1, .ref (q 141), .int z.2.2.2.2.2.2.2.1, .ref (q 142), .int z.2.2.2.2.2.2.2.2.1, .ref (q 143), .int z.2.2.2.2.2.2.2.2.2.1, .ref (q 144), .int z.2.2.2.2.2.2.2.2.2.2.1, .int z.2.2.2.2.2.2.2.2.2.2.2.1])) : Option (Nat × va_E)) ∧ w83[135]? = (some (q 135, .inl (g 0, (4100 : Int32).toNatClampNeg, .inl t1_0)) : Option (Nat × va_E)) ∧ w83[136]? = (some (q 136, .inl (g 0, (10000 : Int32).toNatClampNeg, .inl t2_0)) : Option (Nat × va_E)) ∧ w83[137]? = (some (q 137, .inl (g 0, (10 : Int32).toNatClampNeg, .inl t3_0)) : Option (Nat × va_E)) ∧ w83[138]? = (some (q 138, .inl (g 3, 10, .inl t4_0)) : Option (Nat × va_E)) ∧ w83[139]? = (some (q 139, .inl (g 0, (10 : Int32).toNatClampNeg, .inl t5_0)) : Option (Nat × va_E)) ∧ w83[140]? = (some (q 140, .inl (g 0, (4400 : Int32).toNatClampNeg, .inl z.2.2.2.2.2.2.2.2.2.2.2.2)) : Option (Nat × va_E)) ∧ F_DR_read_J24 x2 t0_0 t0_1 t0_2 t0_3 t0_4 t0_5 t0_6 t0_7 t0_8 t0_9 t0_10 t1_0 t2_0 t3_0 t4_0 t5_0 t6_0 z.1 z.2.1 z.2.2.1 z.2.2.2.1 z.2.2.2.2.1 z.2.2.2.2.2.1 z.2.2.2.2.2.2.1 z.2.2.2.2.2.2.2.1 z.2.2.2.2.2.2.2.2.1 z.2.2.2.2.2.2.2.2.2.1 z.2.2.2.2.2.2.2.2.2.2.1 z.2.2.2.2.2.2.2.2.2.2.2.1 z.2.2.2.2.2.2.2.2.2.2.2.2 = (F_DR_read x2 t0_0 t0_1 t0_2 t0_3 t0_4 t0_5 t0_6 t0_7 t0_8 t0_9 t0_10 t1_0 t2_0 t3_0 t4_0 t5_0 t6_0) ∧ True ∧ S_DR_read_J24 x2 t0_0 t0_1 t0_2 t0_3 t0_4 t0_5 t0_6 t0_7 t0_8 t0_9 t0_10 t1_0 t2_0 t3_0 t4_0 t5_0 t6_0 z.1 z.2.1 z.2.2.1 z.2.2.2.1 z.2.2.2.2.1 z.2.2.2.2.2.1 z.2.2.2.2.2.2.1 z.2.2.2.2.2.2.2.1 z.2.2.2.2.2.2.2.2.1 z.2.2.2.2.2.2.2.2.2.1 z.2.2.2.2.2.2.2.2.2.2.1 z.2.2.2.2.2.2.2.2.2.2.2.1 z.2.2.2.2.2.2.2.2.2.2.2.2) (fun z => [.int z.1, .ref (q 134)]) 24 0 0 ?_ ?_
  ·
    rintro ⟨lx42, lx43, lx44, lx45, lx46, lx47, lx48, lx49, lx50, lx51, lx52, lx53, lx54⟩ H locs ls w83 ⟨i63, i64, i65, i66, i67, i68, i69, i70, i71, i72, i73, i74, i75, i76, i77, i78, i79, i80, i81, i82, V, hl, hI, hF, hO55, hA56, hA57, hA58, hA59, hA60, hA61, hR84, hS85⟩
    clear i63
    replace i64 : q_F (0 ≤ lx47.toInt) := i64
    replace i65 : q_F (0 ≤ lx48.toInt) := i65
    replace i66 : q_F (lx48.toInt ≤ 1) := i66
    clear i67
    clear i68
    clear i69
    replace i70 : q_F (t0_1.toInt ≤ lx44.toInt) := i70
    replace i71 : q_F (lx44.toInt ≤ t0_1.toInt) := i71
    replace i72 : q_F (lx47.toInt ≤ t0_4.toInt) := i72
    replace i73 : q_F (t0_6.toInt ≤ lx49.toInt) := i73
    replace i74 : q_F (lx49.toInt ≤ t0_6.toInt) := i74
    replace i75 : q_F (t0_7.toInt ≤ lx50.toInt) := i75
    replace i76 : q_F (lx50.toInt ≤ t0_7.toInt) := i76
    replace i77 : q_F (t0_8.toInt ≤ lx51.toInt) := i77
    replace i78 : q_F (lx51.toInt ≤ t0_8.toInt) := i78
    replace i79 : q_F (t0_9.toInt ≤ lx52.toInt) := i79
    replace i80 : q_F (lx52.toInt ≤ t0_9.toInt) := i80
    clear i81
    clear i82
    replace hl : lv_has ls 2 [(0, .ref (q 134)), (1, .int x2)] := hl
    replace hO55 : w83[134]? = (some (q 134, .inr (14, [.int lx43, .ref (q 135), .int lx44, .ref (q 136), .ref (q 137), .ref (q 138), .ref (q 139), .ref (q 140), .int lx45, .long lx46, .int lx47, .int lx48, .ref (q 141), .int lx49, .ref (q 142), .int lx50, .ref (q 143), .int lx51, .ref (q 144), .int lx52, .int lx53])) : Option (Nat × va_E)) := hO55
    replace hA57 : w83[136]? = (some (q 136, .inl (g 0, (10000 : Int32).toNatClampNeg, .inl t2_0)) : Option (Nat × va_E)) := hA57
    replace hA58 : w83[137]? = (some (q 137, .inl (g 0, (10 : Int32).toNatClampNeg, .inl t3_0)) : Option (Nat × va_E)) := hA58
    replace hA59 : w83[138]? = (some (q 138, .inl (g 3, 10, .inl t4_0)) : Option (Nat × va_E)) := hA59
    replace hA60 : w83[139]? = (some (q 139, .inl (g 0, (10 : Int32).toNatClampNeg, .inl t5_0)) : Option (Nat × va_E)) := hA60
    replace hA61 : w83[140]? = (some (q 140, .inl (g 0, (4400 : Int32).toNatClampNeg, .inl lx54)) : Option (Nat × va_E)) := hA61
    refine q_put (ci := 14) (j := 0) (v := .int lx42) (ty := .int) C0 V i_DR o_DR n_DR rfl rfl hO55 (by decide) w_1996 rfl rfl rfl rfl (Nat.le_of_ble_eq_true rfl) d_15_21_24 (fun H locs w89 hu90 hO55 V => ?_)
    replace hO55 : w89[134]? = (some (q 134, .inr (14, [.int lx42, .ref (q 135), .int lx44, .ref (q 136), .ref (q 137), .ref (q 138), .ref (q 139), .ref (q 140), .int lx45, .long lx46, .int lx47, .int lx48, .ref (q 141), .int lx49, .ref (q 142), .int lx50, .ref (q 143), .int lx51, .ref (q 144), .int lx52, .int lx53])) : Option (Nat × va_E)) := hO55
    replace hI := n_p134 hI hu90 hO55 ⟨(by have t1 : 0 ≤ t0_1.toInt ∧ t0_1.toInt ≤ 4100 := btt0_1; have t2 : t0_1.toInt ≤ lx44.toInt := i70; omega), (by have t1 : 0 ≤ t0_1.toInt ∧ t0_1.toInt ≤ 4100 := btt0_1; have t2 : lx44.toInt ≤ t0_1.toInt := i71; omega)⟩ ⟨(by first | with_reducible exact q_fe i64 | (have t1 : 0 ≤ lx47.toInt := i64; omega)), (by have t1 : 0 ≤ t0_4.toInt ∧ t0_4.toInt ≤ 1 := btt0_4; have t2 : lx47.toInt ≤ t0_4.toInt := i72; omega)⟩ ⟨(by first | with_reducible exact q_fe i65 | (have t1 : 0 ≤ lx48.toInt := i65; omega)), (by first | with_reducible exact q_fe i66 | (have t1 : lx48.toInt ≤ 1 := i66; omega))⟩ ⟨(by have t1 : 0 ≤ t0_9.toInt ∧ t0_9.toInt ≤ 12200 := btt0_9; have t2 : t0_9.toInt ≤ lx52.toInt := i79; omega), (by have t1 : 0 ≤ t0_9.toInt ∧ t0_9.toInt ≤ 12200 := btt0_9; have t2 : lx52.toInt ≤ t0_9.toInt := i80; omega)⟩
    replace hA57 := (hu90 _ (by decide)).trans hA57
    replace hA58 := (hu90 _ (by decide)).trans hA58
    replace hA59 := (hu90 _ (by decide)).trans hA59
    replace hA60 := (hu90 _ (by decide)).trans hA60
    replace hA61 := (hu90 _ (by decide)).trans hA61
    replace hF := q_us hF hu90 (by simp)
    refine lv_aload_n hx hb d_15_21_27 rfl (lv_at hl 0 rfl) ?_
    refine q_get (ci := 14) (j := 0) (v := .int lx42) C0 V i_DR rfl rfl hO55 (by decide) w_1996 rfl d_15_21_28 ?_
    refine lv_if_ne (tgt := 63) hx hb d_15_21_31 (by decide) (fun c91 => ?_) (fun c91 => ?_)
    ·
      exact q_retv C0 V (⟨hI, hF, lx42, lx44, lx45, lx46, lx47, lx48, lx49, lx50, lx51, lx52, lx53, t2_0, t3_0, t4_0, t5_0, lx54, hO55, hA57, hA58, hA59, hA60, hA61, (show 0 ≤ lx44.toInt from (by have t1 : 0 ≤ t0_1.toInt ∧ t0_1.toInt ≤ 4100 := btt0_1; have t2 : t0_1.toInt ≤ lx44.toInt := i70; omega)), (show 0 ≤ lx47.toInt from (by first | with_reducible exact q_fe i64 | (have t1 : 0 ≤ lx47.toInt := i64; omega))), (show 0 ≤ lx48.toInt from (by first | with_reducible exact q_fe i65 | (have t1 : 0 ≤ lx48.toInt := i65; omega))), (show lx48.toInt ≤ 1 from (by first | with_reducible exact q_fe i66 | (have t1 : lx48.toInt ≤ 1 := i66; omega))), (show lx44.toInt ≤ t0_1.toInt from (by first | with_reducible exact q_fe i71 | (have t1 : lx44.toInt ≤ t0_1.toInt := i71; omega))), (show lx47.toInt ≤ t0_4.toInt from (by first | with_reducible exact q_fe i72 | (have t1 : lx47.toInt ≤ t0_4.toInt := i72; omega))), (show t0_6.toInt ≤ lx49.toInt from (by first | with_reducible exact q_fe i73 | (have t1 : t0_6.toInt ≤ lx49.toInt := i73; omega))), (show lx49.toInt ≤ t0_6.toInt from (by first | with_reducible exact q_fe i74 | (have t1 : lx49.toInt ≤ t0_6.toInt := i74; omega))), (show t0_7.toInt ≤ lx50.toInt from (by first | with_reducible exact q_fe i75 | (have t1 : t0_7.toInt ≤ lx50.toInt := i75; omega))), (show lx50.toInt ≤ t0_7.toInt from (by first | with_reducible exact q_fe i76 | (have t1 : lx50.toInt ≤ t0_7.toInt := i76; omega))), (show t0_8.toInt ≤ lx51.toInt from (by first | with_reducible exact q_fe i77 | (have t1 : t0_8.toInt ≤ lx51.toInt := i77; omega))), (show lx51.toInt ≤ t0_8.toInt from (by first | with_reducible exact q_fe i78 | (have t1 : lx51.toInt ≤ t0_8.toInt := i78; omega))), (show t0_9.toInt ≤ lx52.toInt from (by first | with_reducible exact q_fe i79 | (have t1 : t0_9.toInt ≤ lx52.toInt := i79; omega))), (show lx52.toInt ≤ t0_9.toInt from (by first | with_reducible exact q_fe i80 | (have t1 : lx52.toInt ≤ t0_9.toInt := i80; omega))), (show (lx42, lx44, lx45, lx46, lx47, lx48, lx49, lx50, lx51, lx52, lx53, t2_0, t3_0, t4_0, t5_0, lx54) = (F_DR_read x2 t0_0 t0_1 t0_2 t0_3 t0_4 t0_5 t0_6 t0_7 t0_8 t0_9 t0_10 t1_0 t2_0 t3_0 t4_0 t5_0 t6_0) from Eq.trans (by rw [F_DR_read_J24.eq_1, if_neg c91]) hR84)⟩) d_15_21_63
    ·
      refine lv_aload_n hx hb d_15_21_34 rfl (lv_at hl 0 rfl) ?_
      refine lv_iconst (v := 3) hx hb d_15_21_35 (by decide) ?_
      refine q_put (ci := 14) (j := 20) (v := .int 3) (ty := .int) C0 V i_DR o_DR n_DR rfl rfl hO55 (by decide) w_2024 rfl rfl rfl rfl (Nat.le_of_ble_eq_true rfl) d_15_21_36 (fun H locs w94 hu95 hO55 V => ?_)
      replace hO55 : w94[134]? = (some (q 134, .inr (14, [.int lx42, .ref (q 135), .int lx44, .ref (q 136), .ref (q 137), .ref (q 138), .ref (q 139), .ref (q 140), .int lx45, .long lx46, .int lx47, .int lx48, .ref (q 141), .int lx49, .ref (q 142), .int lx50, .ref (q 143), .int lx51, .ref (q 144), .int lx52, .int 3])) : Option (Nat × va_E)) := hO55
      replace hI := n_p134 hI hu95 hO55 ⟨(by have t1 : 0 ≤ t0_1.toInt ∧ t0_1.toInt ≤ 4100 := btt0_1; have t2 : t0_1.toInt ≤ lx44.toInt := i70; omega), (by have t1 : 0 ≤ t0_1.toInt ∧ t0_1.toInt ≤ 4100 := btt0_1; have t2 : lx44.toInt ≤ t0_1.toInt := i71; omega)⟩ ⟨(by first | with_reducible exact q_fe i64 | (have t1 : 0 ≤ lx47.toInt := i64; omega)), (by have t1 : 0 ≤ t0_4.toInt ∧ t0_4.toInt ≤ 1 := btt0_4; have t2 : lx47.toInt ≤ t0_4.toInt := i72; omega)⟩ ⟨(by first | with_reducible exact q_fe i65 | (have t1 : 0 ≤ lx48.toInt := i65; omega)), (by first | with_reducible exact q_fe i66 | (have t1 : lx48.toInt ≤ 1 := i66; omega))⟩ ⟨(by have t1 : 0 ≤ t0_9.toInt ∧ t0_9.toInt ≤ 12200 := btt0_9; have t2 : t0_9.toInt ≤ lx52.toInt := i79; omega), (by have t1 : 0 ≤ t0_9.toInt ∧ t0_9.toInt ≤ 12200 := btt0_9; have t2 : lx52.toInt ≤ t0_9.toInt := i80; omega)⟩
      replace hA57 := (hu95 _ (by decide)).trans hA57
      replace hA58 := (hu95 _ (by decide)).trans hA58
      replace hA59 := (hu95 _ (by decide)).trans hA59
      replace hA60 := (hu95 _ (by decide)).trans hA60
      replace hA61 := (hu95 _ (by decide)).trans hA61
      replace hF := q_us hF hu95 (by simp)
      refine lv_aload_n hx hb d_15_21_39 rfl (lv_at hl 0 rfl) ?_
      refine lv_iload_n hx hb d_15_21_40 rfl (lv_at hl 1 rfl) ?_
      have ob96 : True ∧ S_DR_store x2 lx42 lx44 lx45 lx46 lx47 lx48 lx49 lx50 lx51 lx52 (3 : Int32) t2_0 t3_0 t4_0 t5_0 lx54 := (by have h := hS85; rw [S_DR_read_J24.eq_1] at h; rw [if_pos c91] at h; with_reducible exact h.2.1)
      refine q_gov V (q_runV (As := [.int x2]) (rest := []) (d := 2) (mc := 0) (ms := 0) (ci := 14) C0 V rfl LV_DR_89 (X_DR_store l D g q w94  x2 hI lx42 lx44 lx45 lx46 lx47 lx48 lx49 lx50 lx51 lx52 3 hO55 t2_0 hA57 t3_0 hA58 t4_0 hA59 t5_0 hA60 lx54 hA61 ob96 _) rfl rfl hO55 rfl hl.1 rfl (Nat.le_of_ble_eq_true rfl) ⟨by decide, by decide⟩ ⟨Nat.le_of_ble_eq_true rfl, Nat.le_of_ble_eq_true rfl⟩ d_15_21_41) (fun u97 H locs hp98 V => ?_)
      obtain ⟨hI, hZ9⟩ := hp98
      obtain ⟨hu144, hZ9⟩ := hZ9
      obtain ⟨y100, hZ9⟩ := hZ9
      obtain ⟨y101, hZ9⟩ := hZ9
      obtain ⟨y102, hZ9⟩ := hZ9
      obtain ⟨y103, hZ9⟩ := hZ9
      obtain ⟨y104, hZ9⟩ := hZ9
      obtain ⟨y105, hZ9⟩ := hZ9
      obtain ⟨y106, hZ9⟩ := hZ9
      obtain ⟨y107, hZ9⟩ := hZ9
      obtain ⟨y108, hZ9⟩ := hZ9
      obtain ⟨y109, hZ9⟩ := hZ9
      obtain ⟨y110, hZ9⟩ := hZ9
      obtain ⟨f111, hZ9⟩ := hZ9
      obtain ⟨f113, hZ9⟩ := hZ9
      obtain ⟨f115, hZ9⟩ := hZ9
      obtain ⟨f117, hZ9⟩ := hZ9
      obtain ⟨f119, hZ9⟩ := hZ9
      obtain ⟨hO99, hZ9⟩ := hZ9
      obtain ⟨hA112, hZ9⟩ := hZ9
      obtain ⟨hA114, hZ9⟩ := hZ9
      obtain ⟨hA116, hZ9⟩ := hZ9
      obtain ⟨hA118, hZ9⟩ := hZ9
      obtain ⟨hA120, hZ9⟩ := hZ9
      obtain ⟨b121, hZ9⟩ := hZ9
      obtain ⟨b122, hZ9⟩ := hZ9
      obtain ⟨b123, hZ9⟩ := hZ9
      replace hZ9 := hZ9.2.2.2.2
      obtain ⟨b128, hZ9⟩ := hZ9
      obtain ⟨b129, hZ9⟩ := hZ9
      replace hZ9 := hZ9.2
      obtain ⟨b131, hZ9⟩ := hZ9
      obtain ⟨b132, hZ9⟩ := hZ9
      obtain ⟨b133, hZ9⟩ := hZ9
      obtain ⟨b134, hZ9⟩ := hZ9
      obtain ⟨b135, hZ9⟩ := hZ9
      obtain ⟨b136, hZ9⟩ := hZ9
      obtain ⟨b137, hZ9⟩ := hZ9
      replace hZ9 := hZ9.2
      obtain ⟨b139, hZ9⟩ := hZ9
      obtain ⟨b140, hZ9⟩ := hZ9
      replace hZ9 := hZ9.2
      obtain ⟨-, hE143⟩ := hZ9
      replace hO99 : u97[134]? = (some (q 134, .inr (14, [.int y100, .ref (q 135), .int y101, .ref (q 136), .ref (q 137), .ref (q 138), .ref (q 139), .ref (q 140), .int y102, .long y103, .int y104, .int y105, .ref (q 141), .int y106, .ref (q 142), .int y107, .ref (q 143), .int y108, .ref (q 144), .int y109, .int y110])) : Option (Nat × va_E)) := hO99
      replace hA112 : u97[136]? = (some (q 136, .inl (g 0, (10000 : Int32).toNatClampNeg, .inl f111)) : Option (Nat × va_E)) := hA112
      replace hA114 : u97[137]? = (some (q 137, .inl (g 0, (10 : Int32).toNatClampNeg, .inl f113)) : Option (Nat × va_E)) := hA114
      replace hA116 : u97[138]? = (some (q 138, .inl (g 3, 10, .inl f115)) : Option (Nat × va_E)) := hA116
      replace hA118 : u97[139]? = (some (q 139, .inl (g 0, (10 : Int32).toNatClampNeg, .inl f117)) : Option (Nat × va_E)) := hA118
      replace hA120 : u97[140]? = (some (q 140, .inl (g 0, (4400 : Int32).toNatClampNeg, .inl f119)) : Option (Nat × va_E)) := hA120
      obtain ⟨p145, e146⟩ : ∃ z, z = (F_DR_store x2 lx42 lx44 lx45 lx46 lx47 lx48 lx49 lx50 lx51 lx52 (3 : Int32) t2_0 t3_0 t4_0 t5_0 lx54) := ⟨_, rfl⟩
      have e147 : y100 = p145.1 := congrArg (fun z => z.1) (hE143.trans e146.symm)
      have e148 : y101 = p145.2.1 := congrArg (fun z => z.2.1) (hE143.trans e146.symm)
      have e149 : y102 = p145.2.2.1 := congrArg (fun z => z.2.2.1) (hE143.trans e146.symm)
      have e150 : y103 = p145.2.2.2.1 := congrArg (fun z => z.2.2.2.1) (hE143.trans e146.symm)
      have e151 : y104 = p145.2.2.2.2.1 := congrArg (fun z => z.2.2.2.2.1) (hE143.trans e146.symm)
      have e152 : y105 = p145.2.2.2.2.2.1 := congrArg (fun z => z.2.2.2.2.2.1) (hE143.trans e146.symm)
      have e153 : y106 = p145.2.2.2.2.2.2.1 := congrArg (fun z => z.2.2.2.2.2.2.1) (hE143.trans e146.symm)
      have e154 : y107 = p145.2.2.2.2.2.2.2.1 := congrArg (fun z => z.2.2.2.2.2.2.2.1) (hE143.trans e146.symm)
      have e155 : y108 = p145.2.2.2.2.2.2.2.2.1 := congrArg (fun z => z.2.2.2.2.2.2.2.2.1) (hE143.trans e146.symm)
      have e156 : y109 = p145.2.2.2.2.2.2.2.2.2.1 := congrArg (fun z => z.2.2.2.2.2.2.2.2.2.1) (hE143.trans e146.symm)
      have e157 : y110 = p145.2.2.2.2.2.2.2.2.2.2.1 := congrArg (fun z => z.2.2.2.2.2.2.2.2.2.2.1) (hE143.trans e146.symm)
      have e158 : f111 = p145.2.2.2.2.2.2.2.2.2.2.2.1 := congrArg (fun z => z.2.2.2.2.2.2.2.2.2.2.2.1) (hE143.trans e146.symm)
      have e159 : f113 = p145.2.2.2.2.2.2.2.2.2.2.2.2.1 := congrArg (fun z => z.2.2.2.2.2.2.2.2.2.2.2.2.1) (hE143.trans e146.symm)
      have e160 : f115 = p145.2.2.2.2.2.2.2.2.2.2.2.2.2.1 := congrArg (fun z => z.2.2.2.2.2.2.2.2.2.2.2.2.2.1) (hE143.trans e146.symm)
      have e161 : f117 = p145.2.2.2.2.2.2.2.2.2.2.2.2.2.2.1 := congrArg (fun z => z.2.2.2.2.2.2.2.2.2.2.2.2.2.2.1) (hE143.trans e146.symm)
      have e162 : f119 = p145.2.2.2.2.2.2.2.2.2.2.2.2.2.2.2 := congrArg (fun z => z.2.2.2.2.2.2.2.2.2.2.2.2.2.2.2) (hE143.trans e146.symm)
      replace b121 : q_F (0 ≤ y105.toInt) := b121
      replace b122 : q_F (lx44.toInt ≤ y101.toInt) := b122
      replace b123 : q_F (y101.toInt ≤ lx44.toInt) := b123
      replace b128 : q_F (lx47.toInt ≤ y104.toInt) := b128
      replace b129 : q_F (y104.toInt ≤ lx47.toInt) := b129
      replace b131 : q_F (y105.toInt ≤ lx48.toInt) := b131
      replace b132 : q_F (lx49.toInt ≤ y106.toInt) := b132
      replace b133 : q_F (y106.toInt ≤ lx49.toInt) := b133
      replace b134 : q_F (lx50.toInt ≤ y107.toInt) := b134
      replace b135 : q_F (y107.toInt ≤ lx50.toInt) := b135
      replace b136 : q_F (lx51.toInt ≤ y108.toInt) := b136
      replace b137 : q_F (y108.toInt ≤ lx51.toInt) := b137
      replace b139 : q_F (lx52.toInt ≤ y109.toInt) := b139
      replace b140 : q_F (y109.toInt ≤ lx52.toInt) := b140
      replace hF := q_uc hF hu144 (by simp)
      have hR163 := (show F_DR_read_c41 x2 t0_0 t0_1 t0_2 t0_3 t0_4 t0_5 t0_6 t0_7 t0_8 t0_9 t0_10 t1_0 t2_0 t3_0 t4_0 t5_0 t6_0 lx42 lx43 lx44 lx45 lx46 lx47 lx48 lx49 lx50 lx51 lx52 lx53 lx54 p145 = (F_DR_read x2 t0_0 t0_1 t0_2 t0_3 t0_4 t0_5 t0_6 t0_7 t0_8 t0_9 t0_10 t1_0 t2_0 t3_0 t4_0 t5_0 t6_0) from Eq.trans (by rw [e146, F_DR_read_J24.eq_1, if_pos c91]) hR84)
      have hS164 := (show True ∧ S_DR_read_c41 x2 t0_0 t0_1 t0_2 t0_3 t0_4 t0_5 t0_6 t0_7 t0_8 t0_9 t0_10 t1_0 t2_0 t3_0 t4_0 t5_0 t6_0 lx42 lx43 lx44 lx45 lx46 lx47 lx48 lx49 lx50 lx51 lx52 lx53 lx54 p145 from (by rw [e146]; have h := hS85; rw [S_DR_read_J24.eq_1] at h; rw [if_pos c91] at h; replace h := q_s2 h; with_reducible exact h))
      refine lv_aload_n hx hb d_15_21_44 rfl (lv_at hl 0 rfl) ?_
      refine lv_aload_n hx hb d_15_21_45 rfl (lv_at hl 0 rfl) ?_
      refine q_get (ci := 14) (j := 0) (v := .int y100) C0 V i_DR rfl rfl hO99 (by decide) w_1996 rfl d_15_21_46 ?_
      refine lv_if_ne (tgt := 56) hx hb d_15_21_49 (by decide) (fun c168 => ?_) (fun c168 => ?_)
      ·
        refine lv_aload_n hx hb d_15_21_56 rfl (lv_at hl 0 rfl) ?_
        refine q_get (ci := 14) (j := 2) (v := .int y101) C0 V i_DR rfl rfl hO99 (by decide) w_2001 rfl d_15_21_57 ?_
        refine q_put (ci := 14) (j := 2) (v := .int y101) (ty := .int) C0 V i_DR o_DR n_DR rfl rfl hO99 (by decide) w_2001 rfl rfl rfl rfl (Nat.le_of_ble_eq_true rfl) d_15_21_60 (fun H locs w170 hu171 hO99 V => ?_)
        replace hO99 : w170[134]? = (some (q 134, .inr (14, [.int y100, .ref (q 135), .int y101, .ref (q 136), .ref (q 137), .ref (q 138), .ref (q 139), .ref (q 140), .int y102, .long y103, .int y104, .int y105, .ref (q 141), .int y106, .ref (q 142), .int y107, .ref (q 143), .int y108, .ref (q 144), .int y109, .int y110])) : Option (Nat × va_E)) := hO99
        replace hI := n_p134 hI hu171 hO99 ⟨(by have t1 : 0 ≤ t0_1.toInt ∧ t0_1.toInt ≤ 4100 := btt0_1; have t2 : t0_1.toInt ≤ lx44.toInt := i70; have t3 : lx44.toInt ≤ y101.toInt := b122; omega), (by have t1 : 0 ≤ t0_1.toInt ∧ t0_1.toInt ≤ 4100 := btt0_1; have t2 : lx44.toInt ≤ t0_1.toInt := i71; have t3 : y101.toInt ≤ lx44.toInt := b123; omega)⟩ ⟨(by have t1 : 0 ≤ lx47.toInt := i64; have t2 : lx47.toInt ≤ y104.toInt := b128; omega), (by have t1 : 0 ≤ t0_4.toInt ∧ t0_4.toInt ≤ 1 := btt0_4; have t2 : lx47.toInt ≤ t0_4.toInt := i72; have t3 : y104.toInt ≤ lx47.toInt := b129; omega)⟩ ⟨(by first | with_reducible exact q_fe b121 | (have t1 : 0 ≤ y105.toInt := b121; omega)), (by have t1 : lx48.toInt ≤ 1 := i66; have t2 : y105.toInt ≤ lx48.toInt := b131; omega)⟩ ⟨(by have t1 : 0 ≤ t0_9.toInt ∧ t0_9.toInt ≤ 12200 := btt0_9; have t2 : t0_9.toInt ≤ lx52.toInt := i79; have t3 : lx52.toInt ≤ y109.toInt := b139; omega), (by have t1 : 0 ≤ t0_9.toInt ∧ t0_9.toInt ≤ 12200 := btt0_9; have t2 : lx52.toInt ≤ t0_9.toInt := i80; have t3 : y109.toInt ≤ lx52.toInt := b140; omega)⟩
        replace hA112 := (hu171 _ (by decide)).trans hA112
        replace hA114 := (hu171 _ (by decide)).trans hA114
        replace hA116 := (hu171 _ (by decide)).trans hA116
        replace hA118 := (hu171 _ (by decide)).trans hA118
        replace hA120 := (hu171 _ (by decide)).trans hA120
        replace hF := q_us hF hu171 (by simp)
        exact q_retv C0 V (⟨hI, hF, y100, y101, y102, y103, y104, y105, y106, y107, y108, y109, y110, f111, f113, f115, f117, f119, hO99, hA112, hA114, hA116, hA118, hA120, (show 0 ≤ y101.toInt from (by have t1 : 0 ≤ t0_1.toInt ∧ t0_1.toInt ≤ 4100 := btt0_1; have t2 : t0_1.toInt ≤ lx44.toInt := i70; have t3 : lx44.toInt ≤ y101.toInt := b122; omega)), (show 0 ≤ y104.toInt from (by have t1 : 0 ≤ lx47.toInt := i64; have t2 : lx47.toInt ≤ y104.toInt := b128; omega)), (show 0 ≤ y105.toInt from (by first | with_reducible exact q_fe b121 | (have t1 : 0 ≤ y105.toInt := b121; omega))), (show y105.toInt ≤ 1 from (by have t1 : lx48.toInt ≤ 1 := i66; have t2 : y105.toInt ≤ lx48.toInt := b131; omega)), (show y101.toInt ≤ t0_1.toInt from (by have t1 : lx44.toInt ≤ t0_1.toInt := i71; have t2 : y101.toInt ≤ lx44.toInt := b123; omega)), (show y104.toInt ≤ t0_4.toInt from (by have t1 : lx47.toInt ≤ t0_4.toInt := i72; have t2 : y104.toInt ≤ lx47.toInt := b129; omega)), (show t0_6.toInt ≤ y106.toInt from (by have t1 : t0_6.toInt ≤ lx49.toInt := i73; have t2 : lx49.toInt ≤ y106.toInt := b132; omega)), (show y106.toInt ≤ t0_6.toInt from (by have t1 : lx49.toInt ≤ t0_6.toInt := i74; have t2 : y106.toInt ≤ lx49.toInt := b133; omega)), (show t0_7.toInt ≤ y107.toInt from (by have t1 : t0_7.toInt ≤ lx50.toInt := i75; have t2 : lx50.toInt ≤ y107.toInt := b134; omega)), (show y107.toInt ≤ t0_7.toInt from (by have t1 : lx50.toInt ≤ t0_7.toInt := i76; have t2 : y107.toInt ≤ lx50.toInt := b135; omega)), (show t0_8.toInt ≤ y108.toInt from (by have t1 : t0_8.toInt ≤ lx51.toInt := i77; have t2 : lx51.toInt ≤ y108.toInt := b136; omega)), (show y108.toInt ≤ t0_8.toInt from (by have t1 : lx51.toInt ≤ t0_8.toInt := i78; have t2 : y108.toInt ≤ lx51.toInt := b137; omega)), (show t0_9.toInt ≤ y109.toInt from (by have t1 : t0_9.toInt ≤ lx52.toInt := i79; have t2 : lx52.toInt ≤ y109.toInt := b139; omega)), (show y109.toInt ≤ t0_9.toInt from (by have t1 : lx52.toInt ≤ t0_9.toInt := i80; have t2 : y109.toInt ≤ lx52.toInt := b140; omega)), (show (y100, y101, y102, y103, y104, y105, y106, y107, y108, y109, y110, f111, f113, f115, f117, f119) = (F_DR_read x2 t0_0 t0_1 t0_2 t0_3 t0_4 t0_5 t0_6 t0_7 t0_8 t0_9 t0_10 t1_0 t2_0 t3_0 t4_0 t5_0 t6_0) from Eq.trans (by have c168x := c168; rw [e147] at c168x; rw [e162, e161, e160, e159, e158, e157, e156, e155, e154, e153, e152, e151, e150, e149, e148, e147, F_DR_read_c41.eq_1, if_neg c168x]) hR163)⟩) d_15_21_63
      ·
        refine lv_iconst (v := 0) hx hb d_15_21_52 (by decide) ?_
        refine lv_goto (tgt := 60) hx hb d_15_21_53 (by decide) ?_
        refine q_put (ci := 14) (j := 2) (v := .int 0) (ty := .int) C0 V i_DR o_DR n_DR rfl rfl hO99 (by decide) w_2001 rfl rfl rfl rfl (Nat.le_of_ble_eq_true rfl) d_15_21_60 (fun H locs w173 hu174 hO99 V => ?_)
        replace hO99 : w173[134]? = (some (q 134, .inr (14, [.int y100, .ref (q 135), .int 0, .ref (q 136), .ref (q 137), .ref (q 138), .ref (q 139), .ref (q 140), .int y102, .long y103, .int y104, .int y105, .ref (q 141), .int y106, .ref (q 142), .int y107, .ref (q 143), .int y108, .ref (q 144), .int y109, .int y110])) : Option (Nat × va_E)) := hO99
        replace hI := n_p134 hI hu174 hO99 ⟨(by have z9 : (0 : Int32).toInt = 0 := rfl; omega), (by have z9 : (0 : Int32).toInt = 0 := rfl; omega)⟩ ⟨(by have t1 : 0 ≤ lx47.toInt := i64; have t2 : lx47.toInt ≤ y104.toInt := b128; omega), (by have t1 : 0 ≤ t0_4.toInt ∧ t0_4.toInt ≤ 1 := btt0_4; have t2 : lx47.toInt ≤ t0_4.toInt := i72; have t3 : y104.toInt ≤ lx47.toInt := b129; omega)⟩ ⟨(by first | with_reducible exact q_fe b121 | (have t1 : 0 ≤ y105.toInt := b121; omega)), (by have t1 : lx48.toInt ≤ 1 := i66; have t2 : y105.toInt ≤ lx48.toInt := b131; omega)⟩ ⟨(by have t1 : 0 ≤ t0_9.toInt ∧ t0_9.toInt ≤ 12200 := btt0_9; have t2 : t0_9.toInt ≤ lx52.toInt := i79; have t3 : lx52.toInt ≤ y109.toInt := b139; omega), (by have t1 : 0 ≤ t0_9.toInt ∧ t0_9.toInt ≤ 12200 := btt0_9; have t2 : lx52.toInt ≤ t0_9.toInt := i80; have t3 : y109.toInt ≤ lx52.toInt := b140; omega)⟩
        replace hA112 := (hu174 _ (by decide)).trans hA112
        replace hA114 := (hu174 _ (by decide)).trans hA114
        replace hA116 := (hu174 _ (by decide)).trans hA116
        replace hA118 := (hu174 _ (by decide)).trans hA118
        replace hA120 := (hu174 _ (by decide)).trans hA120
        replace hF := q_us hF hu174 (by simp)
        exact q_retv C0 V (⟨hI, hF, y100, 0, y102, y103, y104, y105, y106, y107, y108, y109, y110, f111, f113, f115, f117, f119, hO99, hA112, hA114, hA116, hA118, hA120, (show 0 ≤ (0 : Int32).toInt from (by have z19 : (0 : Int32).toInt = 0 := rfl; omega)), (show 0 ≤ y104.toInt from (by have z19 : (0 : Int32).toInt = 0 := rfl; have t1 : 0 ≤ lx47.toInt := i64; have t2 : lx47.toInt ≤ y104.toInt := b128; omega)), (show 0 ≤ y105.toInt from (by have z19 : (0 : Int32).toInt = 0 := rfl; have t1 : 0 ≤ y105.toInt := b121; omega)), (show y105.toInt ≤ 1 from (by have z19 : (0 : Int32).toInt = 0 := rfl; have t1 : lx48.toInt ≤ 1 := i66; have t2 : y105.toInt ≤ lx48.toInt := b131; omega)), (show (0 : Int32).toInt ≤ t0_1.toInt from (by have z19 : (0 : Int32).toInt = 0 := rfl; have t1 : 0 ≤ t0_1.toInt ∧ t0_1.toInt ≤ 4100 := btt0_1; omega)), (show y104.toInt ≤ t0_4.toInt from (by have z19 : (0 : Int32).toInt = 0 := rfl; have t1 : lx47.toInt ≤ t0_4.toInt := i72; have t2 : y104.toInt ≤ lx47.toInt := b129; omega)), (show t0_6.toInt ≤ y106.toInt from (by have z19 : (0 : Int32).toInt = 0 := rfl; have t1 : t0_6.toInt ≤ lx49.toInt := i73; have t2 : lx49.toInt ≤ y106.toInt := b132; omega)), (show y106.toInt ≤ t0_6.toInt from (by have z19 : (0 : Int32).toInt = 0 := rfl; have t1 : lx49.toInt ≤ t0_6.toInt := i74; have t2 : y106.toInt ≤ lx49.toInt := b133; omega)), (show t0_7.toInt ≤ y107.toInt from (by have z19 : (0 : Int32).toInt = 0 := rfl; have t1 : t0_7.toInt ≤ lx50.toInt := i75; have t2 : lx50.toInt ≤ y107.toInt := b134; omega)), (show y107.toInt ≤ t0_7.toInt from (by have z19 : (0 : Int32).toInt = 0 := rfl; have t1 : lx50.toInt ≤ t0_7.toInt := i76; have t2 : y107.toInt ≤ lx50.toInt := b135; omega)), (show t0_8.toInt ≤ y108.toInt from (by have z19 : (0 : Int32).toInt = 0 := rfl; have t1 : t0_8.toInt ≤ lx51.toInt := i77; have t2 : lx51.toInt ≤ y108.toInt := b136; omega)), (show y108.toInt ≤ t0_8.toInt from (by have z19 : (0 : Int32).toInt = 0 := rfl; have t1 : lx51.toInt ≤ t0_8.toInt := i78; have t2 : y108.toInt ≤ lx51.toInt := b137; omega)), (show t0_9.toInt ≤ y109.toInt from (by have z19 : (0 : Int32).toInt = 0 := rfl; have t1 : t0_9.toInt ≤ lx52.toInt := i79; have t2 : lx52.toInt ≤ y109.toInt := b139; omega)), (show y109.toInt ≤ t0_9.toInt from (by have z19 : (0 : Int32).toInt = 0 := rfl; have t1 : lx52.toInt ≤ t0_9.toInt := i80; have t2 : y109.toInt ≤ lx52.toInt := b140; omega)), (show (y100, (0 : Int32), y102, y103, y104, y105, y106, y107, y108, y109, y110, f111, f113, f115, f117, f119) = (F_DR_read x2 t0_0 t0_1 t0_2 t0_3 t0_4 t0_5 t0_6 t0_7 t0_8 t0_9 t0_10 t1_0 t2_0 t3_0 t4_0 t5_0 t6_0) from Eq.trans (by have c168x := c168; rw [e147] at c168x; rw [e162, e161, e160, e159, e158, e157, e156, e155, e154, e153, e152, e151, e150, e149, e147, F_DR_read_c41.eq_1, if_pos c168x]) hR163)⟩) d_15_21_63
  ·
    intro J62
    refine lv_if_eq (tgt := 12) hx hb d_15_21_5 (by decide) (fun c175 => ?_) (fun c175 => ?_)
    ·
      have b176 : q_F (a37.toInt = 0) := (q_eqI c175)
      refine lv_aload_n hx hb d_15_21_12 rfl (lv_at hl 0 rfl) ?_
      have ob177 : True ∧ S_DR_says t0_0 t0_1 t0_2 t0_3 t0_4 t0_5 t0_6 t0_7 t0_8 t0_9 t0_10 t1_0 t6_0 := (by have h := hS; rw [S_DR_read.eq_1] at h; have c175x := c175; rw [e41] at c175x; rw [if_pos c175x] at h; with_reducible exact h.2.1)
      refine q_goi V (q_runV (As := []) (rest := [.ref (q 134)]) (d := 2) (mc := 0) (ms := 0) (ci := 14) C0 V rfl LV_DR_116 (X_DR_says l D g q ws   hI t0_0 t0_1 t0_2 t0_3 t0_4 t0_5 t0_6 t0_7 t0_8 t0_9 t0_10 hT0 t1_0 hT1 t6_0 hT6 ob177 _) rfl rfl hT0 rfl hl.1 rfl (Nat.le_of_ble_eq_true rfl) ⟨by decide, by decide⟩ ⟨Nat.le_of_ble_eq_true rfl, Nat.le_of_ble_eq_true rfl⟩ d_15_21_13) (fun a180 u178 H locs hp179 V => ?_)
      obtain ⟨hI, hZ9⟩ := hp179
      obtain ⟨hu218, hZ9⟩ := hZ9
      obtain ⟨y182, hZ9⟩ := hZ9
      obtain ⟨y183, hZ9⟩ := hZ9
      obtain ⟨y184, hZ9⟩ := hZ9
      obtain ⟨y185, hZ9⟩ := hZ9
      obtain ⟨y186, hZ9⟩ := hZ9
      obtain ⟨y187, hZ9⟩ := hZ9
      obtain ⟨y188, hZ9⟩ := hZ9
      obtain ⟨y189, hZ9⟩ := hZ9
      obtain ⟨y190, hZ9⟩ := hZ9
      obtain ⟨y191, hZ9⟩ := hZ9
      obtain ⟨y192, hZ9⟩ := hZ9
      obtain ⟨f193, hZ9⟩ := hZ9
      obtain ⟨hO181, hZ9⟩ := hZ9
      obtain ⟨hA194, hZ9⟩ := hZ9
      obtain ⟨b195, hZ9⟩ := hZ9
      obtain ⟨b196, hZ9⟩ := hZ9
      obtain ⟨b197, hZ9⟩ := hZ9
      obtain ⟨b198, hZ9⟩ := hZ9
      obtain ⟨b199, hZ9⟩ := hZ9
      obtain ⟨b200, hZ9⟩ := hZ9
      obtain ⟨b201, hZ9⟩ := hZ9
      obtain ⟨b202, hZ9⟩ := hZ9
      obtain ⟨b203, hZ9⟩ := hZ9
      obtain ⟨b204, hZ9⟩ := hZ9
      obtain ⟨b205, hZ9⟩ := hZ9
      obtain ⟨b206, hZ9⟩ := hZ9
      obtain ⟨b207, hZ9⟩ := hZ9
      obtain ⟨b208, hZ9⟩ := hZ9
      obtain ⟨b209, hZ9⟩ := hZ9
      obtain ⟨b210, hZ9⟩ := hZ9
      replace hZ9 := hZ9.2.2.2.2
      obtain ⟨b215, hZ9⟩ := hZ9
      obtain ⟨b216, hE217⟩ := hZ9
      replace hO181 : u178[134]? = (some (q 134, .inr (14, [.int y182, .ref (q 135), .int y183, .ref (q 136), .ref (q 137), .ref (q 138), .ref (q 139), .ref (q 140), .int y184, .long y185, .int y186, .int y187, .ref (q 141), .int y188, .ref (q 142), .int y189, .ref (q 143), .int y190, .ref (q 144), .int y191, .int y192])) : Option (Nat × va_E)) := hO181
      replace hA194 : u178[140]? = (some (q 140, .inl (g 0, (4400 : Int32).toNatClampNeg, .inl f193)) : Option (Nat × va_E)) := hA194
      obtain ⟨p219, e220⟩ : ∃ z, z = (F_DR_says t0_0 t0_1 t0_2 t0_3 t0_4 t0_5 t0_6 t0_7 t0_8 t0_9 t0_10 t1_0 t6_0) := ⟨_, rfl⟩
      have e221 : a180 = p219.1 := congrArg (fun z => z.1) (hE217.trans e220.symm)
      have e222 : y182 = p219.2.1 := congrArg (fun z => z.2.1) (hE217.trans e220.symm)
      have e223 : y183 = p219.2.2.1 := congrArg (fun z => z.2.2.1) (hE217.trans e220.symm)
      have e224 : y184 = p219.2.2.2.1 := congrArg (fun z => z.2.2.2.1) (hE217.trans e220.symm)
      have e225 : y185 = p219.2.2.2.2.1 := congrArg (fun z => z.2.2.2.2.1) (hE217.trans e220.symm)
      have e226 : y186 = p219.2.2.2.2.2.1 := congrArg (fun z => z.2.2.2.2.2.1) (hE217.trans e220.symm)
      have e227 : y187 = p219.2.2.2.2.2.2.1 := congrArg (fun z => z.2.2.2.2.2.2.1) (hE217.trans e220.symm)
      have e228 : y188 = p219.2.2.2.2.2.2.2.1 := congrArg (fun z => z.2.2.2.2.2.2.2.1) (hE217.trans e220.symm)
      have e229 : y189 = p219.2.2.2.2.2.2.2.2.1 := congrArg (fun z => z.2.2.2.2.2.2.2.2.1) (hE217.trans e220.symm)
      have e230 : y190 = p219.2.2.2.2.2.2.2.2.2.1 := congrArg (fun z => z.2.2.2.2.2.2.2.2.2.1) (hE217.trans e220.symm)
      have e231 : y191 = p219.2.2.2.2.2.2.2.2.2.2.1 := congrArg (fun z => z.2.2.2.2.2.2.2.2.2.2.1) (hE217.trans e220.symm)
      have e232 : y192 = p219.2.2.2.2.2.2.2.2.2.2.2.1 := congrArg (fun z => z.2.2.2.2.2.2.2.2.2.2.2.1) (hE217.trans e220.symm)
      have e233 : f193 = p219.2.2.2.2.2.2.2.2.2.2.2.2 := congrArg (fun z => z.2.2.2.2.2.2.2.2.2.2.2.2) (hE217.trans e220.symm)
      replace b195 : q_F (0 ≤ y186.toInt) := b195
      replace b196 : q_F (y186.toInt ≤ 0) := b196
      replace b197 : q_F (t0_0.toInt ≤ y182.toInt) := b197
      replace b198 : q_F (y182.toInt ≤ t0_0.toInt) := b198
      replace b199 : q_F (t0_1.toInt ≤ y183.toInt) := b199
      replace b200 : q_F (y183.toInt ≤ t0_1.toInt) := b200
      replace b201 : q_F (t0_6.toInt ≤ y188.toInt) := b201
      replace b202 : q_F (y188.toInt ≤ t0_6.toInt) := b202
      replace b203 : q_F (t0_7.toInt ≤ y189.toInt) := b203
      replace b204 : q_F (y189.toInt ≤ t0_7.toInt) := b204
      replace b205 : q_F (t0_8.toInt ≤ y190.toInt) := b205
      replace b206 : q_F (y190.toInt ≤ t0_8.toInt) := b206
      replace b207 : q_F (t0_9.toInt ≤ y191.toInt) := b207
      replace b208 : q_F (y191.toInt ≤ t0_9.toInt) := b208
      replace b209 : q_F (t0_10.toInt ≤ y192.toInt) := b209
      replace b210 : q_F (y192.toInt ≤ t0_10.toInt) := b210
      replace b215 : q_F (y187.toInt ≤ y186.toInt + 1) := b215
      replace b216 : q_F (y186.toInt ≤ y187.toInt) := b216
      replace hT1 := (hu218 _ (by decide)).trans hT1
      replace hT2 := (hu218 _ (by decide)).trans hT2
      replace hT3 := (hu218 _ (by decide)).trans hT3
      replace hT4 := (hu218 _ (by decide)).trans hT4
      replace hT5 := (hu218 _ (by decide)).trans hT5
      replace hF := q_uc hF hu218 (by simp)
      have hR234 := (show F_DR_read_c13 x2 t0_0 t0_1 t0_2 t0_3 t0_4 t0_5 t0_6 t0_7 t0_8 t0_9 t0_10 t1_0 t2_0 t3_0 t4_0 t5_0 t6_0 p219 = (F_DR_read x2 t0_0 t0_1 t0_2 t0_3 t0_4 t0_5 t0_6 t0_7 t0_8 t0_9 t0_10 t1_0 t2_0 t3_0 t4_0 t5_0 t6_0) from (by have c175x := c175; rw [e41] at c175x; rw [e220, F_DR_read.eq_1, if_pos c175x]))
      have hS235 := (show True ∧ S_DR_read_c13 x2 t0_0 t0_1 t0_2 t0_3 t0_4 t0_5 t0_6 t0_7 t0_8 t0_9 t0_10 t1_0 t2_0 t3_0 t4_0 t5_0 t6_0 p219 from (by rw [e220]; have h := hS; rw [S_DR_read.eq_1] at h; have c175x := c175; rw [e41] at c175x; rw [if_pos c175x] at h; replace h := q_s2 h; with_reducible exact h))
      refine lv_if_ne (tgt := 23) hx hb d_15_21_16 (by decide) (fun c239 => ?_) (fun c239 => ?_)
      ·
        refine lv_iconst (v := 0) hx hb d_15_21_23 (by decide) ?_
        exact J62 ((0 : Int32), (y182 : Int32), (y183 : Int32), (y184 : Int32), (y185 : Int64), (y186 : Int32), (y187 : Int32), (y188 : Int32), (y189 : Int32), (y190 : Int32), (y191 : Int32), (y192 : Int32), (f193 : (Nat → Int32))) _ _ _ _ ⟨(show q_F (0 ≤ 2) from (show 0 ≤ 2 from by omega)), (show q_F (0 ≤ y186.toInt) from (show 0 ≤ y186.toInt from by have t1 : 0 ≤ y186.toInt := b195; omega)), (show q_F (0 ≤ y187.toInt) from (show 0 ≤ y187.toInt from by have t1 : 0 ≤ y186.toInt := b195; have t2 : y186.toInt ≤ y187.toInt := b216; omega)), (show q_F (y187.toInt ≤ 1) from (show y187.toInt ≤ 1 from by have t1 : y186.toInt ≤ 0 := b196; have t2 : y187.toInt ≤ y186.toInt + 1 := b215; omega)), (show q_F (a37.toInt ≤ 0) from (show a37.toInt ≤ 0 from by have t1 : a37.toInt = 0 := b176; omega)), (show q_F (t0_0.toInt ≤ y182.toInt) from (show t0_0.toInt ≤ y182.toInt from by have t1 : t0_0.toInt ≤ y182.toInt := b197; omega)), (show q_F (y182.toInt ≤ t0_0.toInt) from (show y182.toInt ≤ t0_0.toInt from by have t1 : y182.toInt ≤ t0_0.toInt := b198; omega)), (show q_F (t0_1.toInt ≤ y183.toInt) from (show t0_1.toInt ≤ y183.toInt from by have t1 : t0_1.toInt ≤ y183.toInt := b199; omega)), (show q_F (y183.toInt ≤ t0_1.toInt) from (show y183.toInt ≤ t0_1.toInt from by have t1 : y183.toInt ≤ t0_1.toInt := b200; omega)), (show q_F (y186.toInt ≤ t0_4.toInt) from (show y186.toInt ≤ t0_4.toInt from by have t1 : 0 ≤ t0_4.toInt ∧ t0_4.toInt ≤ 1 := btt0_4; have t2 : y186.toInt ≤ 0 := b196; omega)), (show q_F (t0_6.toInt ≤ y188.toInt) from (show t0_6.toInt ≤ y188.toInt from by have t1 : t0_6.toInt ≤ y188.toInt := b201; omega)), (show q_F (y188.toInt ≤ t0_6.toInt) from (show y188.toInt ≤ t0_6.toInt from by have t1 : y188.toInt ≤ t0_6.toInt := b202; omega)), (show q_F (t0_7.toInt ≤ y189.toInt) from (show t0_7.toInt ≤ y189.toInt from by have t1 : t0_7.toInt ≤ y189.toInt := b203; omega)), (show q_F (y189.toInt ≤ t0_7.toInt) from (show y189.toInt ≤ t0_7.toInt from by have t1 : y189.toInt ≤ t0_7.toInt := b204; omega)), (show q_F (t0_8.toInt ≤ y190.toInt) from (show t0_8.toInt ≤ y190.toInt from by have t1 : t0_8.toInt ≤ y190.toInt := b205; omega)), (show q_F (y190.toInt ≤ t0_8.toInt) from (show y190.toInt ≤ t0_8.toInt from by have t1 : y190.toInt ≤ t0_8.toInt := b206; omega)), (show q_F (t0_9.toInt ≤ y191.toInt) from (show t0_9.toInt ≤ y191.toInt from by have t1 : t0_9.toInt ≤ y191.toInt := b207; omega)), (show q_F (y191.toInt ≤ t0_9.toInt) from (show y191.toInt ≤ t0_9.toInt from by have t1 : y191.toInt ≤ t0_9.toInt := b208; omega)), (show q_F (t0_10.toInt ≤ y192.toInt) from (show t0_10.toInt ≤ y192.toInt from by have t1 : t0_10.toInt ≤ y192.toInt := b209; omega)), (show q_F (y192.toInt ≤ t0_10.toInt) from (show y192.toInt ≤ t0_10.toInt from by have t1 : y192.toInt ≤ t0_10.toInt := b210; omega)), V, q_lw hl (q_lw1 0 rfl (q_lw1 1 rfl q_lw0)), hI, hF, hO181, hT1, hT2, hT3, hT4, hT5, hA194, (show F_DR_read_J24 x2 t0_0 t0_1 t0_2 t0_3 t0_4 t0_5 t0_6 t0_7 t0_8 t0_9 t0_10 t1_0 t2_0 t3_0 t4_0 t5_0 t6_0 0 y182 y183 y184 y185 y186 y187 y188 y189 y190 y191 y192 f193 = (F_DR_read x2 t0_0 t0_1 t0_2 t0_3 t0_4 t0_5 t0_6 t0_7 t0_8 t0_9 t0_10 t1_0 t2_0 t3_0 t4_0 t5_0 t6_0) from Eq.trans (by have c239x := c239; rw [e221] at c239x; rw [e233, e232, e231, e230, e229, e228, e227, e226, e225, e224, e223, e222, F_DR_read_c13.eq_1, if_neg c239x]) hR234), (show True ∧ S_DR_read_J24 x2 t0_0 t0_1 t0_2 t0_3 t0_4 t0_5 t0_6 t0_7 t0_8 t0_9 t0_10 t1_0 t2_0 t3_0 t4_0 t5_0 t6_0 0 y182 y183 y184 y185 y186 y187 y188 y189 y190 y191 y192 f193 from (by rw [e233, e232, e231, e230, e229, e228, e227, e226, e225, e224, e223, e222]; have h := hS235; rw [S_DR_read_c13.eq_1] at h; have c239x := c239; rw [e221] at c239x; rw [if_neg c239x] at h; with_reducible exact h))⟩
      ·
        refine lv_iconst (v := 2) hx hb d_15_21_19 (by decide) ?_
        refine lv_goto (tgt := 24) hx hb d_15_21_20 (by decide) ?_
        exact J62 ((2 : Int32), (y182 : Int32), (y183 : Int32), (y184 : Int32), (y185 : Int64), (y186 : Int32), (y187 : Int32), (y188 : Int32), (y189 : Int32), (y190 : Int32), (y191 : Int32), (y192 : Int32), (f193 : (Nat → Int32))) _ _ _ _ ⟨(show q_F (2 ≤ 2) from (show 2 ≤ 2 from by omega)), (show q_F (0 ≤ y186.toInt) from (show 0 ≤ y186.toInt from by have t1 : 0 ≤ y186.toInt := b195; omega)), (show q_F (0 ≤ y187.toInt) from (show 0 ≤ y187.toInt from by have t1 : 0 ≤ y186.toInt := b195; have t2 : y186.toInt ≤ y187.toInt := b216; omega)), (show q_F (y187.toInt ≤ 1) from (show y187.toInt ≤ 1 from by have t1 : y186.toInt ≤ 0 := b196; have t2 : y187.toInt ≤ y186.toInt + 1 := b215; omega)), (show q_F (a37.toInt ≤ 2) from (show a37.toInt ≤ 2 from by have t1 : a37.toInt ≤ 1 := b39; omega)), (show q_F (t0_0.toInt ≤ y182.toInt) from (show t0_0.toInt ≤ y182.toInt from by have t1 : t0_0.toInt ≤ y182.toInt := b197; omega)), (show q_F (y182.toInt ≤ t0_0.toInt) from (show y182.toInt ≤ t0_0.toInt from by have t1 : y182.toInt ≤ t0_0.toInt := b198; omega)), (show q_F (t0_1.toInt ≤ y183.toInt) from (show t0_1.toInt ≤ y183.toInt from by have t1 : t0_1.toInt ≤ y183.toInt := b199; omega)), (show q_F (y183.toInt ≤ t0_1.toInt) from (show y183.toInt ≤ t0_1.toInt from by have t1 : y183.toInt ≤ t0_1.toInt := b200; omega)), (show q_F (y186.toInt ≤ t0_4.toInt) from (show y186.toInt ≤ t0_4.toInt from by have t1 : 0 ≤ t0_4.toInt ∧ t0_4.toInt ≤ 1 := btt0_4; have t2 : y186.toInt ≤ 0 := b196; omega)), (show q_F (t0_6.toInt ≤ y188.toInt) from (show t0_6.toInt ≤ y188.toInt from by have t1 : t0_6.toInt ≤ y188.toInt := b201; omega)), (show q_F (y188.toInt ≤ t0_6.toInt) from (show y188.toInt ≤ t0_6.toInt from by have t1 : y188.toInt ≤ t0_6.toInt := b202; omega)), (show q_F (t0_7.toInt ≤ y189.toInt) from (show t0_7.toInt ≤ y189.toInt from by have t1 : t0_7.toInt ≤ y189.toInt := b203; omega)), (show q_F (y189.toInt ≤ t0_7.toInt) from (show y189.toInt ≤ t0_7.toInt from by have t1 : y189.toInt ≤ t0_7.toInt := b204; omega)), (show q_F (t0_8.toInt ≤ y190.toInt) from (show t0_8.toInt ≤ y190.toInt from by have t1 : t0_8.toInt ≤ y190.toInt := b205; omega)), (show q_F (y190.toInt ≤ t0_8.toInt) from (show y190.toInt ≤ t0_8.toInt from by have t1 : y190.toInt ≤ t0_8.toInt := b206; omega)), (show q_F (t0_9.toInt ≤ y191.toInt) from (show t0_9.toInt ≤ y191.toInt from by have t1 : t0_9.toInt ≤ y191.toInt := b207; omega)), (show q_F (y191.toInt ≤ t0_9.toInt) from (show y191.toInt ≤ t0_9.toInt from by have t1 : y191.toInt ≤ t0_9.toInt := b208; omega)), (show q_F (t0_10.toInt ≤ y192.toInt) from (show t0_10.toInt ≤ y192.toInt from by have t1 : t0_10.toInt ≤ y192.toInt := b209; omega)), (show q_F (y192.toInt ≤ t0_10.toInt) from (show y192.toInt ≤ t0_10.toInt from by have t1 : y192.toInt ≤ t0_10.toInt := b210; omega)), V, q_lw hl (q_lw1 0 rfl (q_lw1 1 rfl q_lw0)), hI, hF, hO181, hT1, hT2, hT3, hT4, hT5, hA194, (show F_DR_read_J24 x2 t0_0 t0_1 t0_2 t0_3 t0_4 t0_5 t0_6 t0_7 t0_8 t0_9 t0_10 t1_0 t2_0 t3_0 t4_0 t5_0 t6_0 2 y182 y183 y184 y185 y186 y187 y188 y189 y190 y191 y192 f193 = (F_DR_read x2 t0_0 t0_1 t0_2 t0_3 t0_4 t0_5 t0_6 t0_7 t0_8 t0_9 t0_10 t1_0 t2_0 t3_0 t4_0 t5_0 t6_0) from Eq.trans (by have c239x := c239; rw [e221] at c239x; rw [e233, e232, e231, e230, e229, e228, e227, e226, e225, e224, e223, e222, F_DR_read_c13.eq_1, if_pos c239x]) hR234), (show True ∧ S_DR_read_J24 x2 t0_0 t0_1 t0_2 t0_3 t0_4 t0_5 t0_6 t0_7 t0_8 t0_9 t0_10 t1_0 t2_0 t3_0 t4_0 t5_0 t6_0 2 y182 y183 y184 y185 y186 y187 y188 y189 y190 y191 y192 f193 from (by rw [e233, e232, e231, e230, e229, e228, e227, e226, e225, e224, e223, e222]; have h := hS235; rw [S_DR_read_c13.eq_1] at h; have c239x := c239; rw [e221] at c239x; rw [if_pos c239x] at h; with_reducible exact h))⟩
    ·
      refine lv_iconst (v := 1) hx hb d_15_21_8 (by decide) ?_
      refine lv_goto (tgt := 24) hx hb d_15_21_9 (by decide) ?_
      exact J62 ((1 : Int32), (t0_0 : Int32), (t0_1 : Int32), (t0_2 : Int32), (t0_3 : Int64), (t0_4 : Int32), (t0_5 : Int32), (t0_6 : Int32), (t0_7 : Int32), (t0_8 : Int32), (t0_9 : Int32), (t0_10 : Int32), (t6_0 : (Nat → Int32))) _ _ _ _ ⟨(show q_F (1 ≤ 2) from (show 1 ≤ 2 from by omega)), (show q_F (0 ≤ t0_4.toInt) from (show 0 ≤ t0_4.toInt from by have t1 : 0 ≤ t0_4.toInt ∧ t0_4.toInt ≤ 1 := btt0_4; omega)), (show q_F (0 ≤ t0_5.toInt) from (show 0 ≤ t0_5.toInt from by have t1 : 0 ≤ t0_5.toInt ∧ t0_5.toInt ≤ 1 := btt0_5; omega)), (show q_F (t0_5.toInt ≤ 1) from (show t0_5.toInt ≤ 1 from by have t1 : 0 ≤ t0_5.toInt ∧ t0_5.toInt ≤ 1 := btt0_5; omega)), (show q_F (a37.toInt ≤ 1) from (show a37.toInt ≤ 1 from by have t1 : a37.toInt ≤ 1 := b39; omega)), (show q_F (t0_0.toInt ≤ t0_0.toInt) from (show t0_0.toInt ≤ t0_0.toInt from by omega)), (show q_F (t0_0.toInt ≤ t0_0.toInt) from (show t0_0.toInt ≤ t0_0.toInt from by omega)), (show q_F (t0_1.toInt ≤ t0_1.toInt) from (show t0_1.toInt ≤ t0_1.toInt from by omega)), (show q_F (t0_1.toInt ≤ t0_1.toInt) from (show t0_1.toInt ≤ t0_1.toInt from by omega)), (show q_F (t0_4.toInt ≤ t0_4.toInt) from (show t0_4.toInt ≤ t0_4.toInt from by omega)), (show q_F (t0_6.toInt ≤ t0_6.toInt) from (show t0_6.toInt ≤ t0_6.toInt from by omega)), (show q_F (t0_6.toInt ≤ t0_6.toInt) from (show t0_6.toInt ≤ t0_6.toInt from by omega)), (show q_F (t0_7.toInt ≤ t0_7.toInt) from (show t0_7.toInt ≤ t0_7.toInt from by omega)), (show q_F (t0_7.toInt ≤ t0_7.toInt) from (show t0_7.toInt ≤ t0_7.toInt from by omega)), (show q_F (t0_8.toInt ≤ t0_8.toInt) from (show t0_8.toInt ≤ t0_8.toInt from by omega)), (show q_F (t0_8.toInt ≤ t0_8.toInt) from (show t0_8.toInt ≤ t0_8.toInt from by omega)), (show q_F (t0_9.toInt ≤ t0_9.toInt) from (show t0_9.toInt ≤ t0_9.toInt from by omega)), (show q_F (t0_9.toInt ≤ t0_9.toInt) from (show t0_9.toInt ≤ t0_9.toInt from by omega)), (show q_F (t0_10.toInt ≤ t0_10.toInt) from (show t0_10.toInt ≤ t0_10.toInt from by omega)), (show q_F (t0_10.toInt ≤ t0_10.toInt) from (show t0_10.toInt ≤ t0_10.toInt from by omega)), V, q_lw hl (q_lw1 0 rfl (q_lw1 1 rfl q_lw0)), hI, hF, hT0, hT1, hT2, hT3, hT4, hT5, hT6, (show F_DR_read_J24 x2 t0_0 t0_1 t0_2 t0_3 t0_4 t0_5 t0_6 t0_7 t0_8 t0_9 t0_10 t1_0 t2_0 t3_0 t4_0 t5_0 t6_0 1 t0_0 t0_1 t0_2 t0_3 t0_4 t0_5 t0_6 t0_7 t0_8 t0_9 t0_10 t6_0 = (F_DR_read x2 t0_0 t0_1 t0_2 t0_3 t0_4 t0_5 t0_6 t0_7 t0_8 t0_9 t0_10 t1_0 t2_0 t3_0 t4_0 t5_0 t6_0) from (by have c175x := c175; rw [e41] at c175x; rw [F_DR_read.eq_1, if_neg c175x])), (show True ∧ S_DR_read_J24 x2 t0_0 t0_1 t0_2 t0_3 t0_4 t0_5 t0_6 t0_7 t0_8 t0_9 t0_10 t1_0 t2_0 t3_0 t4_0 t5_0 t6_0 1 t0_0 t0_1 t0_2 t0_3 t0_4 t0_5 t0_6 t0_7 t0_8 t0_9 t0_10 t6_0 from (by have h := hS; rw [S_DR_read.eq_1] at h; have c175x := c175; rw [e41] at c175x; rw [if_neg c175x] at h; with_reducible exact h))⟩
theorem d_15_22_0 : decode prog_15_method_22_code 0 = .ok (.aload_n 0, 1) := by decide +kernel
theorem d_15_22_1 : decode prog_15_method_22_code 1 = .ok (.iload_n 1, 1) := by decide +kernel
theorem d_15_22_2 : decode prog_15_method_22_code 2 = .ok (.invokestatic 113, 3) := by decide +kernel
theorem d_15_22_13 : decode prog_15_method_22_code 13 = .ok (.putfield 41, 3) := by decide +kernel
theorem d_15_22_16 : decode prog_15_method_22_code 16 = .ok (.aload_n 0, 1) := by decide +kernel
theorem d_15_22_17 : decode prog_15_method_22_code 17 = .ok (.getfield 41, 3) := by decide +kernel
theorem d_15_22_20 : decode prog_15_method_22_code 20 = .ok (.ifCond .le 4, 3) := by decide +kernel
theorem d_15_22_24 : decode prog_15_method_22_code 24 = .ok (.aload_n 0, 1) := by decide +kernel
theorem d_15_22_25 : decode prog_15_method_22_code 25 = .ok (.iconst 2, 1) := by decide +kernel
theorem d_15_22_26 : decode prog_15_method_22_code 26 = .ok (.putfield 66, 3) := by decide +kernel
theorem d_15_22_29 : decode prog_15_method_22_code 29 = .ok (.aload_n 0, 1) := by decide +kernel
theorem d_15_22_30 : decode prog_15_method_22_code 30 = .ok (.lload_n 2, 1) := by decide +kernel
theorem d_15_22_31 : decode prog_15_method_22_code 31 = .ok (.lconst 0, 1) := by decide +kernel
theorem d_15_22_32 : decode prog_15_method_22_code 32 = .ok (.lcmp, 1) := by decide +kernel
theorem d_15_22_41 : decode prog_15_method_22_code 41 = .ok (.putfield 56, 3) := by decide +kernel
theorem d_15_22_44 : decode prog_15_method_22_code 44 = .ok (.aload_n 0, 1) := by decide +kernel
theorem d_15_22_45 : decode prog_15_method_22_code 45 = .ok (.iconst 0, 1) := by decide +kernel
theorem d_15_22_46 : decode prog_15_method_22_code 46 = .ok (.putfield 52, 3) := by decide +kernel
theorem d_15_22_49 : decode prog_15_method_22_code 49 = .ok (.aload_n 0, 1) := by decide +kernel
theorem d_15_22_50 : decode prog_15_method_22_code 50 = .ok (.iload 4, 2) := by decide +kernel
theorem d_15_22_52 : decode prog_15_method_22_code 52 = .ok (.i2l, 1) := by decide +kernel
theorem d_15_22_53 : decode prog_15_method_22_code 53 = .ok (.putfield 48, 3) := by decide +kernel
theorem d_15_22_56 : decode prog_15_method_22_code 56 = .ok (.aload_n 0, 1) := by decide +kernel
theorem d_15_22_57 : decode prog_15_method_22_code 57 = .ok (.bipush 19, 2) := by decide +kernel
theorem d_15_22_59 : decode prog_15_method_22_code 59 = .ok (.putfield 45, 3) := by decide +kernel
theorem d_15_22_62 : decode prog_15_method_22_code 62 = .ok (.lload_n 2, 1) := by decide +kernel
theorem d_15_22_63 : decode prog_15_method_22_code 63 = .ok (.lstore 5, 2) := by decide +kernel
theorem d_15_22_65 : decode prog_15_method_22_code 65 = .ok (.bipush 18, 2) := by decide +kernel
theorem d_15_22_67 : decode prog_15_method_22_code 67 = .ok (.istore 7, 2) := by decide +kernel
theorem d_15_22_69 : decode prog_15_method_22_code 69 = .ok (.iload 7, 2) := by decide +kernel
theorem d_15_22_71 : decode prog_15_method_22_code 71 = .ok (.ifCond .lt 48, 3) := by decide +kernel
theorem d_15_22_119 : decode prog_15_method_22_code 119 = .ok (.aload_n 0, 1) := by decide +kernel
theorem d_15_22_120 : decode prog_15_method_22_code 120 = .ok (.iload_n 1, 1) := by decide +kernel
theorem d_15_22_121 : decode prog_15_method_22_code 121 = .ok (.invokevirtual 89, 3) := by decide +kernel
theorem d_15_22_124 : decode prog_15_method_22_code 124 = .ok (.return_, 1) := by decide +kernel
theorem d_15_22_74 : decode prog_15_method_22_code 74 = .ok (.lload 5, 2) := by decide +kernel
theorem d_15_22_76 : decode prog_15_method_22_code 76 = .ok (.ldc2_w 109, 3) := by decide +kernel
theorem d_15_22_79 : decode prog_15_method_22_code 79 = .ok (.lrem, 1) := by decide +kernel
theorem d_15_22_80 : decode prog_15_method_22_code 80 = .ok (.lstore 8, 2) := by decide +kernel
theorem d_15_22_82 : decode prog_15_method_22_code 82 = .ok (.aload_n 0, 1) := by decide +kernel
theorem d_15_22_83 : decode prog_15_method_22_code 83 = .ok (.getfield 26, 3) := by decide +kernel
theorem d_15_22_86 : decode prog_15_method_22_code 86 = .ok (.iload 7, 2) := by decide +kernel
theorem d_15_22_88 : decode prog_15_method_22_code 88 = .ok (.lload 8, 2) := by decide +kernel
theorem d_15_22_90 : decode prog_15_method_22_code 90 = .ok (.lconst 0, 1) := by decide +kernel
theorem d_15_22_91 : decode prog_15_method_22_code 91 = .ok (.lcmp, 1) := by decide +kernel
theorem d_15_22_92 : decode prog_15_method_22_code 92 = .ok (.ifCond .ge 9, 3) := by decide +kernel
theorem d_15_22_101 : decode prog_15_method_22_code 101 = .ok (.lload 8, 2) := by decide +kernel
theorem d_15_22_103 : decode prog_15_method_22_code 103 = .ok (.l2i, 1) := by decide +kernel
theorem d_15_22_104 : decode prog_15_method_22_code 104 = .ok (.iastore, 1) := by decide +kernel
theorem d_15_22_105 : decode prog_15_method_22_code 105 = .ok (.lload 5, 2) := by decide +kernel
theorem d_15_22_107 : decode prog_15_method_22_code 107 = .ok (.ldc2_w 109, 3) := by decide +kernel
theorem d_15_22_110 : decode prog_15_method_22_code 110 = .ok (.ldiv, 1) := by decide +kernel
theorem d_15_22_111 : decode prog_15_method_22_code 111 = .ok (.lstore 5, 2) := by decide +kernel
theorem d_15_22_113 : decode prog_15_method_22_code 113 = .ok (.iinc 7 (-1), 3) := by decide +kernel
theorem d_15_22_116 : decode prog_15_method_22_code 116 = .ok (.goto (-47), 3) := by decide +kernel
theorem d_15_22_95 : decode prog_15_method_22_code 95 = .ok (.lload 8, 2) := by decide +kernel
theorem d_15_22_97 : decode prog_15_method_22_code 97 = .ok (.lneg, 1) := by decide +kernel
theorem d_15_22_98 : decode prog_15_method_22_code 98 = .ok (.goto 5, 3) := by decide +kernel
theorem d_15_22_33 : decode prog_15_method_22_code 33 = .ok (.ifCond .ge 7, 3) := by decide +kernel
theorem d_15_22_40 : decode prog_15_method_22_code 40 = .ok (.iconst 0, 1) := by decide +kernel
theorem d_15_22_36 : decode prog_15_method_22_code 36 = .ok (.iconst 1, 1) := by decide +kernel
theorem d_15_22_37 : decode prog_15_method_22_code 37 = .ok (.goto 4, 3) := by decide +kernel
theorem d_15_22_23 : decode prog_15_method_22_code 23 = .ok (.return_, 1) := by decide +kernel
theorem d_15_22_5 : decode prog_15_method_22_code 5 = .ok (.ifCond .eq 7, 3) := by decide +kernel
theorem d_15_22_12 : decode prog_15_method_22_code 12 = .ok (.iconst 0, 1) := by decide +kernel
theorem d_15_22_8 : decode prog_15_method_22_code 8 = .ok (.iconst 1, 1) := by decide +kernel
theorem d_15_22_9 : decode prog_15_method_22_code 9 = .ok (.goto 4, 3) := by decide +kernel
def y_DR_put : MethodName := ⟨"NumberHouseModel$DecimalRows", "put", "(IJI)V"⟩
def F_DR_put_c121 (K_F_DR_put_L69 : Int32 → Int64 → (Nat → Int32) → (Int32 × Int32 × Int32 × Int64 × Int32 × Int32 × Int32 × Int32 × Int32 × Int32 × Int32 × (Nat → Int32) × (Nat → Int32) × (Nat → Int32) × (Nat → Int32) × (Nat → Int32))) (x2 : Int32) (x3 : Int64) (x4 : Int32) (t0_0 : Int32) (t0_1 : Int32) (t0_2 : Int32) (t0_3 : Int64) (t0_4 : Int32) (t0_5 : Int32) (t0_6 : Int32) (t0_7 : Int32) (t0_8 : Int32) (t0_9 : Int32) (t0_10 : Int32) (t1_0 : (Nat → Int32)) (t2_0 : (Nat → Int32)) (t3_0 : (Nat → Int32)) (t4_0 : (Nat → Int32)) (t5_0 : (Nat → Int32)) (lx39 : Int32) (lx63 : Int32) (j82 : Int64) (lx91 : Int32) (lx92 : Int64) (lx93 : (Nat → Int32)) (p160 : (Int32 × Int32 × Int32 × Int64 × Int32 × Int32 × Int32 × Int32 × Int32 × Int32 × Int32 × (Nat → Int32) × (Nat → Int32) × (Nat → Int32) × (Nat → Int32) × (Nat → Int32))) : Int32 × Int32 × Int32 × Int64 × Int32 × Int32 × Int32 × Int32 × Int32 × Int32 × Int32 × (Nat → Int32) × (Nat → Int32) × (Nat → Int32) × (Nat → Int32) × (Nat → Int32) := ((p160.1 : Int32), (p160.2.1 : Int32), (p160.2.2.1 : Int32), (p160.2.2.2.1 : Int64), (p160.2.2.2.2.1 : Int32), (p160.2.2.2.2.2.1 : Int32), (p160.2.2.2.2.2.2.1 : Int32), (p160.2.2.2.2.2.2.2.1 : Int32), (p160.2.2.2.2.2.2.2.2.1 : Int32), (p160.2.2.2.2.2.2.2.2.2.1 : Int32), (p160.2.2.2.2.2.2.2.2.2.2.1 : Int32), (p160.2.2.2.2.2.2.2.2.2.2.2.1 : (Nat → Int32)), (p160.2.2.2.2.2.2.2.2.2.2.2.2.1 : (Nat → Int32)), (p160.2.2.2.2.2.2.2.2.2.2.2.2.2.1 : (Nat → Int32)), (p160.2.2.2.2.2.2.2.2.2.2.2.2.2.2.1 : (Nat → Int32)), (p160.2.2.2.2.2.2.2.2.2.2.2.2.2.2.2 : (Nat → Int32)))
def F_DR_put_L69 (x2 : Int32) (x3 : Int64) (x4 : Int32) (t0_0 : Int32) (t0_1 : Int32) (t0_2 : Int32) (t0_3 : Int64) (t0_4 : Int32) (t0_5 : Int32) (t0_6 : Int32) (t0_7 : Int32) (t0_8 : Int32) (t0_9 : Int32) (t0_10 : Int32) (t1_0 : (Nat → Int32)) (t2_0 : (Nat → Int32)) (t3_0 : (Nat → Int32)) (t4_0 : (Nat → Int32)) (t5_0 : (Nat → Int32)) (lx39 : Int32) (lx63 : Int32) (j82 : Int64) : Nat → Int32 → Int64 → (Nat → Int32) → (Int32 × Int32 × Int32 × Int64 × Int32 × Int32 × Int32 × Int32 × Int32 × Int32 × Int32 × (Nat → Int32) × (Nat → Int32) × (Nat → Int32) × (Nat → Int32) × (Nat → Int32))
  | 0, _, _, _ => default
  | fm + 1, lx91, lx92, lx93 => if lx91 < (0 : Int32) then (F_DR_put_c121 (F_DR_put_L69 x2 x3 x4 t0_0 t0_1 t0_2 t0_3 t0_4 t0_5 t0_6 t0_7 t0_8 t0_9 t0_10 t1_0 t2_0 t3_0 t4_0 t5_0 lx39 lx63 j82 fm) x2 x3 x4 t0_0 t0_1 t0_2 t0_3 t0_4 t0_5 t0_6 t0_7 t0_8 t0_9 t0_10 t1_0 t2_0 t3_0 t4_0 t5_0 lx39 lx63 j82 lx91 lx92 lx93 ((F_DR_store x2 lx39 t0_1 (19 : Int32) j82 (0 : Int32) lx63 t0_6 t0_7 t0_8 t0_9 (2 : Int32) t1_0 t2_0 t3_0 t4_0 lx93) : (Int32 × Int32 × Int32 × Int64 × Int32 × Int32 × Int32 × Int32 × Int32 × Int32 × Int32 × (Nat → Int32) × (Nat → Int32) × (Nat → Int32) × (Nat → Int32) × (Nat → Int32)))) else (if (0 : Int32) ≤ (lg_cmp (lx92 - lx92 / 10 * 10 : Int64) 0 : Int32) then (F_DR_put_L69 x2 x3 x4 t0_0 t0_1 t0_2 t0_3 t0_4 t0_5 t0_6 t0_7 t0_8 t0_9 t0_10 t1_0 t2_0 t3_0 t4_0 t5_0 lx39 lx63 j82 fm (lx91 + (-1) : Int32) (lx92 / 10 : Int64) (upd lx93 lx91.toNatClampNeg ((lx92 - lx92 / 10 * 10 : Int64).toInt32 : Int32) : (Nat → Int32))) else (F_DR_put_L69 x2 x3 x4 t0_0 t0_1 t0_2 t0_3 t0_4 t0_5 t0_6 t0_7 t0_8 t0_9 t0_10 t1_0 t2_0 t3_0 t4_0 t5_0 lx39 lx63 j82 fm (lx91 + (-1) : Int32) (lx92 / 10 : Int64) (upd lx93 lx91.toNatClampNeg ((-(lx92 - lx92 / 10 * 10 : Int64) : Int64).toInt32 : Int32) : (Nat → Int32))))
def F_DR_put_J41 (x2 : Int32) (x3 : Int64) (x4 : Int32) (t0_0 : Int32) (t0_1 : Int32) (t0_2 : Int32) (t0_3 : Int64) (t0_4 : Int32) (t0_5 : Int32) (t0_6 : Int32) (t0_7 : Int32) (t0_8 : Int32) (t0_9 : Int32) (t0_10 : Int32) (t1_0 : (Nat → Int32)) (t2_0 : (Nat → Int32)) (t3_0 : (Nat → Int32)) (t4_0 : (Nat → Int32)) (t5_0 : (Nat → Int32)) (lx39 : Int32) (lx63 : Int32) : Int32 × Int32 × Int32 × Int64 × Int32 × Int32 × Int32 × Int32 × Int32 × Int32 × Int32 × (Nat → Int32) × (Nat → Int32) × (Nat → Int32) × (Nat → Int32) × (Nat → Int32) := F_DR_put_L69 x2 x3 x4 t0_0 t0_1 t0_2 t0_3 t0_4 t0_5 t0_6 t0_7 t0_8 t0_9 t0_10 t1_0 t2_0 t3_0 t4_0 t5_0 lx39 lx63 (x4.toInt64 : Int64) (((18 : Int32).toInt - ((-1))).toNat + 1) 18 x3 t5_0
def F_DR_put_J13 (x2 : Int32) (x3 : Int64) (x4 : Int32) (t0_0 : Int32) (t0_1 : Int32) (t0_2 : Int32) (t0_3 : Int64) (t0_4 : Int32) (t0_5 : Int32) (t0_6 : Int32) (t0_7 : Int32) (t0_8 : Int32) (t0_9 : Int32) (t0_10 : Int32) (t1_0 : (Nat → Int32)) (t2_0 : (Nat → Int32)) (t3_0 : (Nat → Int32)) (t4_0 : (Nat → Int32)) (t5_0 : (Nat → Int32)) (lx39 : Int32) : Int32 × Int32 × Int32 × Int64 × Int32 × Int32 × Int32 × Int32 × Int32 × Int32 × Int32 × (Nat → Int32) × (Nat → Int32) × (Nat → Int32) × (Nat → Int32) × (Nat → Int32) := if lx39 ≤ (0 : Int32) then (if (0 : Int32) ≤ (lg_cmp x3 0 : Int32) then (F_DR_put_J41 x2 x3 x4 t0_0 t0_1 t0_2 t0_3 t0_4 t0_5 t0_6 t0_7 t0_8 t0_9 t0_10 t1_0 t2_0 t3_0 t4_0 t5_0 lx39 0) else (F_DR_put_J41 x2 x3 x4 t0_0 t0_1 t0_2 t0_3 t0_4 t0_5 t0_6 t0_7 t0_8 t0_9 t0_10 t1_0 t2_0 t3_0 t4_0 t5_0 lx39 1)) else ((lx39, t0_1, t0_2, t0_3, t0_4, t0_5, t0_6, t0_7, t0_8, t0_9, t0_10, t1_0, t2_0, t3_0, t4_0, t5_0))
def F_DR_put (x2 : Int32) (x3 : Int64) (x4 : Int32) (t0_0 : Int32) (t0_1 : Int32) (t0_2 : Int32) (t0_3 : Int64) (t0_4 : Int32) (t0_5 : Int32) (t0_6 : Int32) (t0_7 : Int32) (t0_8 : Int32) (t0_9 : Int32) (t0_10 : Int32) (t1_0 : (Nat → Int32)) (t2_0 : (Nat → Int32)) (t3_0 : (Nat → Int32)) (t4_0 : (Nat → Int32)) (t5_0 : (Nat → Int32)) : Int32 × Int32 × Int32 × Int64 × Int32 × Int32 × Int32 × Int32 × Int32 × Int32 × Int32 × (Nat → Int32) × (Nat → Int32) × (Nat → Int32) × (Nat → Int32) × (Nat → Int32) := if ((F_DR_no x2) : Int32) = (0 : Int32) then (F_DR_put_J13 x2 x3 x4 t0_0 t0_1 t0_2 t0_3 t0_4 t0_5 t0_6 t0_7 t0_8 t0_9 t0_10 t1_0 t2_0 t3_0 t4_0 t5_0 0) else (F_DR_put_J13 x2 x3 x4 t0_0 t0_1 t0_2 t0_3 t0_4 t0_5 t0_6 t0_7 t0_8 t0_9 t0_10 t1_0 t2_0 t3_0 t4_0 t5_0 1)
def S_DR_put_c121 (K_S_DR_put_L69 : Int32 → Int64 → (Nat → Int32) → Prop) (x2 : Int32) (x3 : Int64) (x4 : Int32) (t0_0 : Int32) (t0_1 : Int32) (t0_2 : Int32) (t0_3 : Int64) (t0_4 : Int32) (t0_5 : Int32) (t0_6 : Int32) (t0_7 : Int32) (t0_8 : Int32) (t0_9 : Int32) (t0_10 : Int32) (t1_0 : (Nat → Int32)) (t2_0 : (Nat → Int32)) (t3_0 : (Nat → Int32)) (t4_0 : (Nat → Int32)) (t5_0 : (Nat → Int32)) (lx39 : Int32) (lx63 : Int32) (j82 : Int64) (lx91 : Int32) (lx92 : Int64) (lx93 : (Nat → Int32)) (p160 : (Int32 × Int32 × Int32 × Int64 × Int32 × Int32 × Int32 × Int32 × Int32 × Int32 × Int32 × (Nat → Int32) × (Nat → Int32) × (Nat → Int32) × (Nat → Int32) × (Nat → Int32))) : Prop := True
def S_DR_put_L69 (x2 : Int32) (x3 : Int64) (x4 : Int32) (t0_0 : Int32) (t0_1 : Int32) (t0_2 : Int32) (t0_3 : Int64) (t0_4 : Int32) (t0_5 : Int32) (t0_6 : Int32) (t0_7 : Int32) (t0_8 : Int32) (t0_9 : Int32) (t0_10 : Int32) (t1_0 : (Nat → Int32)) (t2_0 : (Nat → Int32)) (t3_0 : (Nat → Int32)) (t4_0 : (Nat → Int32)) (t5_0 : (Nat → Int32)) (lx39 : Int32) (lx63 : Int32) (j82 : Int64) : Nat → Int32 → Int64 → (Nat → Int32) → Prop
  | 0, _, _, _ => False
  | fm + 1, lx91, lx92, lx93 => if lx91 < (0 : Int32) then ((True ∧ S_DR_store x2 lx39 t0_1 (19 : Int32) j82 (0 : Int32) lx63 t0_6 t0_7 t0_8 t0_9 (2 : Int32) t1_0 t2_0 t3_0 t4_0 lx93) ∧ (S_DR_put_c121 (S_DR_put_L69 x2 x3 x4 t0_0 t0_1 t0_2 t0_3 t0_4 t0_5 t0_6 t0_7 t0_8 t0_9 t0_10 t1_0 t2_0 t3_0 t4_0 t5_0 lx39 lx63 j82 fm) x2 x3 x4 t0_0 t0_1 t0_2 t0_3 t0_4 t0_5 t0_6 t0_7 t0_8 t0_9 t0_10 t1_0 t2_0 t3_0 t4_0 t5_0 lx39 lx63 j82 lx91 lx92 lx93 ((F_DR_store x2 lx39 t0_1 (19 : Int32) j82 (0 : Int32) lx63 t0_6 t0_7 t0_8 t0_9 (2 : Int32) t1_0 t2_0 t3_0 t4_0 lx93) : (Int32 × Int32 × Int32 × Int64 × Int32 × Int32 × Int32 × Int32 × Int32 × Int32 × Int32 × (Nat → Int32) × (Nat → Int32) × (Nat → Int32) × (Nat → Int32) × (Nat → Int32))))) else (if (0 : Int32) ≤ (lg_cmp (lx92 - lx92 / 10 * 10 : Int64) 0 : Int32) then (S_DR_put_L69 x2 x3 x4 t0_0 t0_1 t0_2 t0_3 t0_4 t0_5 t0_6 t0_7 t0_8 t0_9 t0_10 t1_0 t2_0 t3_0 t4_0 t5_0 lx39 lx63 j82 fm (lx91 + (-1) : Int32) (lx92 / 10 : Int64) (upd lx93 lx91.toNatClampNeg ((lx92 - lx92 / 10 * 10 : Int64).toInt32 : Int32) : (Nat → Int32))) else (S_DR_put_L69 x2 x3 x4 t0_0 t0_1 t0_2 t0_3 t0_4 t0_5 t0_6 t0_7 t0_8 t0_9 t0_10 t1_0 t2_0 t3_0 t4_0 t5_0 lx39 lx63 j82 fm (lx91 + (-1) : Int32) (lx92 / 10 : Int64) (upd lx93 lx91.toNatClampNeg ((-(lx92 - lx92 / 10 * 10 : Int64) : Int64).toInt32 : Int32) : (Nat → Int32))))
def S_DR_put_J41 (x2 : Int32) (x3 : Int64) (x4 : Int32) (t0_0 : Int32) (t0_1 : Int32) (t0_2 : Int32) (t0_3 : Int64) (t0_4 : Int32) (t0_5 : Int32) (t0_6 : Int32) (t0_7 : Int32) (t0_8 : Int32) (t0_9 : Int32) (t0_10 : Int32) (t1_0 : (Nat → Int32)) (t2_0 : (Nat → Int32)) (t3_0 : (Nat → Int32)) (t4_0 : (Nat → Int32)) (t5_0 : (Nat → Int32)) (lx39 : Int32) (lx63 : Int32) : Prop := S_DR_put_L69 x2 x3 x4 t0_0 t0_1 t0_2 t0_3 t0_4 t0_5 t0_6 t0_7 t0_8 t0_9 t0_10 t1_0 t2_0 t3_0 t4_0 t5_0 lx39 lx63 (x4.toInt64 : Int64) (((18 : Int32).toInt - ((-1))).toNat + 1) 18 x3 t5_0
def S_DR_put_J13 (x2 : Int32) (x3 : Int64) (x4 : Int32) (t0_0 : Int32) (t0_1 : Int32) (t0_2 : Int32) (t0_3 : Int64) (t0_4 : Int32) (t0_5 : Int32) (t0_6 : Int32) (t0_7 : Int32) (t0_8 : Int32) (t0_9 : Int32) (t0_10 : Int32) (t1_0 : (Nat → Int32)) (t2_0 : (Nat → Int32)) (t3_0 : (Nat → Int32)) (t4_0 : (Nat → Int32)) (t5_0 : (Nat → Int32)) (lx39 : Int32) : Prop := if lx39 ≤ (0 : Int32) then (if (0 : Int32) ≤ (lg_cmp x3 0 : Int32) then (S_DR_put_J41 x2 x3 x4 t0_0 t0_1 t0_2 t0_3 t0_4 t0_5 t0_6 t0_7 t0_8 t0_9 t0_10 t1_0 t2_0 t3_0 t4_0 t5_0 lx39 0) else (S_DR_put_J41 x2 x3 x4 t0_0 t0_1 t0_2 t0_3 t0_4 t0_5 t0_6 t0_7 t0_8 t0_9 t0_10 t1_0 t2_0 t3_0 t4_0 t5_0 lx39 1)) else (True)
def S_DR_put (x2 : Int32) (x3 : Int64) (x4 : Int32) (t0_0 : Int32) (t0_1 : Int32) (t0_2 : Int32) (t0_3 : Int64) (t0_4 : Int32) (t0_5 : Int32) (t0_6 : Int32) (t0_7 : Int32) (t0_8 : Int32) (t0_9 : Int32) (t0_10 : Int32) (t1_0 : (Nat → Int32)) (t2_0 : (Nat → Int32)) (t3_0 : (Nat → Int32)) (t4_0 : (Nat → Int32)) (t5_0 : (Nat → Int32)) : Prop := if ((F_DR_no x2) : Int32) = (0 : Int32) then (S_DR_put_J13 x2 x3 x4 t0_0 t0_1 t0_2 t0_3 t0_4 t0_5 t0_6 t0_7 t0_8 t0_9 t0_10 t1_0 t2_0 t3_0 t4_0 t5_0 0) else (S_DR_put_J13 x2 x3 x4 t0_0 t0_1 t0_2 t0_3 t0_4 t0_5 t0_6 t0_7 t0_8 t0_9 t0_10 t1_0 t2_0 t3_0 t4_0 t5_0 1)
set_option maxRecDepth 100000 in
set_option maxHeartbeats 4000000 in
theorem X_DR_put (l : Launch) (D : va_G) (g : Nat → ClassId) (q : Nat → Nat) (ws : va_W) (x2 : Int32) (x3 : Int64) (x4 : Int32) (hI : q_I (msh g q) q ws) (t0_0 : Int32) (t0_1 : Int32) (t0_2 : Int32) (t0_3 : Int64) (t0_4 : Int32) (t0_5 : Int32) (t0_6 : Int32) (t0_7 : Int32) (t0_8 : Int32) (t0_9 : Int32) (t0_10 : Int32) (hT0 : ws[134]? = (some (q 134, .inr (14, [.int t0_0, .ref (q 135), .int t0_1, .ref (q 136), .ref (q 137), .ref (q 138), .ref (q 139), .ref (q 140), .int t0_2, .long t0_3, .int t0_4, .int t0_5, .ref (q 141), .int t0_6, .ref (q 142), .int t0_7, .ref (q 143), .int t0_8, .ref (q 144), .int t0_9, .int t0_10])) : Option (Nat × va_E))) (t1_0 : (Nat → Int32)) (hT1 : ws[136]? = (some (q 136, .inl (g 0, (10000 : Int32).toNatClampNeg, .inl t1_0)) : Option (Nat × va_E))) (t2_0 : (Nat → Int32)) (hT2 : ws[137]? = (some (q 137, .inl (g 0, (10 : Int32).toNatClampNeg, .inl t2_0)) : Option (Nat × va_E))) (t3_0 : (Nat → Int32)) (hT3 : ws[138]? = (some (q 138, .inl (g 3, 10, .inl t3_0)) : Option (Nat × va_E))) (t4_0 : (Nat → Int32)) (hT4 : ws[139]? = (some (q 139, .inl (g 0, (10 : Int32).toNatClampNeg, .inl t4_0)) : Option (Nat × va_E))) (t5_0 : (Nat → Int32)) (hT5 : ws[140]? = (some (q 140, .inl (g 0, (4400 : Int32).toNatClampNeg, .inl t5_0)) : Option (Nat × va_E))) (hS : True ∧ S_DR_put x2 x3 x4 t0_0 t0_1 t0_2 t0_3 t0_4 t0_5 t0_6 t0_7 t0_8 t0_9 t0_10 t1_0 t2_0 t3_0 t4_0 t5_0) : q_mV l y_DR_put prog_15_method_22_code 10 3 0 0 D g [.ref (q 134), .int x2, .long x3, .int x4] ws (fun u => q_I (msh g q) q u ∧ q_un ws u [134, 136, 137, 138, 139, 140] ∧ ∃ (u0_0 : Int32) (u0_1 : Int32) (u0_2 : Int32) (u0_3 : Int64) (u0_4 : Int32) (u0_5 : Int32) (u0_6 : Int32) (u0_7 : Int32) (u0_8 : Int32) (u0_9 : Int32) (u0_10 : Int32) (u1_0 : (Nat → Int32)) (u2_0 : (Nat → Int32)) (u3_0 : (Nat → Int32)) (u4_0 : (Nat → Int32)) (u5_0 : (Nat → Int32)), u[134]? = (some (q 134, .inr (14, [.int u0_0, .ref (q 135), .int u0_1, .ref (q 136), .ref (q 137), .ref (q 138), .ref (q 139), .ref (q 140), .int u0_2, .long u0_3, .int u0_4, .int u0_5, .ref (q 141), .int u0_6, .ref (q 142), .int u0_7, .ref (q 143), .int u0_8, .ref (q 144), .int u0_9, .int u0_10])) : Option (Nat × va_E)) ∧ u[136]? = (some (q 136, .inl (g 0, (10000 : Int32).toNatClampNeg, .inl u1_0)) : Option (Nat × va_E)) ∧ u[137]? = (some (q 137, .inl (g 0, (10 : Int32).toNatClampNeg, .inl u2_0)) : Option (Nat × va_E)) ∧ u[138]? = (some (q 138, .inl (g 3, 10, .inl u3_0)) : Option (Nat × va_E)) ∧ u[139]? = (some (q 139, .inl (g 0, (10 : Int32).toNatClampNeg, .inl u4_0)) : Option (Nat × va_E)) ∧ u[140]? = (some (q 140, .inl (g 0, (4400 : Int32).toNatClampNeg, .inl u5_0)) : Option (Nat × va_E)) ∧ (0 ≤ u0_4.toInt) ∧ (0 ≤ u0_5.toInt) ∧ (u0_5.toInt ≤ 1) ∧ (t0_1.toInt ≤ u0_1.toInt) ∧ (u0_1.toInt ≤ t0_1.toInt) ∧ (u0_4.toInt ≤ t0_4.toInt) ∧ (t0_6.toInt ≤ u0_6.toInt) ∧ (u0_6.toInt ≤ t0_6.toInt) ∧ (t0_7.toInt ≤ u0_7.toInt) ∧ (u0_7.toInt ≤ t0_7.toInt) ∧ (t0_8.toInt ≤ u0_8.toInt) ∧ (u0_8.toInt ≤ t0_8.toInt) ∧ (t0_9.toInt ≤ u0_9.toInt) ∧ (u0_9.toInt ≤ t0_9.toInt) ∧ (u0_0, u0_1, u0_2, u0_3, u0_4, u0_5, u0_6, u0_7, u0_8, u0_9, u0_10, u1_0, u2_0, u3_0, u4_0, u5_0) = (F_DR_put x2 x3 x4 t0_0 t0_1 t0_2 t0_3 t0_4 t0_5 t0_6 t0_7 t0_8 t0_9 t0_10 t1_0 t2_0 t3_0 t4_0 t5_0)) := by
  intro sz
  refine q_into (by decide) (Nat.le_of_ble_eq_true rfl) ?_
  intro p e s m below meth c ls hsz C0 V hl
  have hx := C0.1
  have hb := C0.2.1
  obtain ⟨btt0_1, hZ9⟩ := n_w134 hI hT0
  obtain ⟨btt0_4, hZ9⟩ := hZ9
  obtain ⟨btt0_5, btt0_9⟩ := hZ9
  replace btt0_1 : q_F (0 ≤ t0_1.toInt ∧ t0_1.toInt ≤ 4100) := btt0_1
  replace btt0_4 : q_F (0 ≤ t0_4.toInt ∧ t0_4.toInt ≤ 1) := btt0_4
  replace btt0_5 : q_F (0 ≤ t0_5.toInt ∧ t0_5.toInt ≤ 1) := btt0_5
  replace btt0_9 : q_F (0 ≤ t0_9.toInt ∧ t0_9.toInt ≤ 12200) := btt0_9
  have hF : q_un ws ws [134, 136, 137, 138, 139, 140] := q_u0
  have hl : lv_has ls 10 [(0, .ref (q 134)), (1, .int x2), (2, .long x3), (4, .int x4)] := hl
  refine lv_aload_n hx hb d_15_22_0 rfl (lv_at hl 0 rfl) ?_
  refine lv_iload_n hx hb d_15_22_1 rfl (lv_at hl 1 rfl) ?_
  refine q_goi V (q_runS (As := [.int x2]) (rest := [.ref (q 134)]) (d := 1) (mc := 0) (ms := 0) C0 V rfl LS_DR_113 (X_DR_no l D g q ws  x2 hI   _) rfl hl.1 rfl (Nat.le_of_ble_eq_true rfl) ⟨by decide, by decide⟩ ⟨Nat.le_of_ble_eq_true rfl, Nat.le_of_ble_eq_true rfl⟩ d_15_22_2) (fun a34 u32 H locs hp33 V => ?_)
  obtain ⟨rfl, b35, b36, hE37⟩ := hp33
  have e38 : a34 = (F_DR_no x2) := hE37
  clear b35
  clear b36
  refine q_join (X := Int32) (fun z H locs ls _ => q_F (0 ≤ z.toInt) ∧ q_F (z.toInt ≤ 1) ∧ q_Wd D g (va_A ws sz) s ws H locs ∧ lv_has ls 10 [(0, .ref (q 134)), (1, .int x2), (2, .long x3), (4, .int x4)] ∧ F_DR_put_J13 x2 x3 x4 t0_0 t0_1 t0_2 t0_3 t0_4 t0_5 t0_6 t0_7 t0_8 t0_9 t0_10 t1_0 t2_0 t3_0 t4_0 t5_0 z = (F_DR_put x2 x3 x4 t0_0 t0_1 t0_2 t0_3 t0_4 t0_5 t0_6 t0_7 t0_8 t0_9 t0_10 t1_0 t2_0 t3_0 t4_0 t5_0) ∧ True ∧ S_DR_put_J13 x2 x3 x4 t0_0 t0_1 t0_2 t0_3 t0_4 t0_5 t0_6 t0_7 t0_8 t0_9 t0_10 t1_0 t2_0 t3_0 t4_0 t5_0 z) (fun z => [.int z, .ref (q 134)]) 13 0 0 ?_ ?_
  ·
    rintro lx39 H locs ls _ hZ9
    obtain ⟨i47, hZ9⟩ := hZ9
    obtain ⟨i48, hZ9⟩ := hZ9
    obtain ⟨V, hZ9⟩ := hZ9
    obtain ⟨hl, hZ9⟩ := hZ9
    obtain ⟨hR49, hS50⟩ := hZ9
    replace i47 : q_F (0 ≤ lx39.toInt) := i47
    replace i48 : q_F (lx39.toInt ≤ 1) := i48
    replace hl : lv_has ls 10 [(0, .ref (q 134)), (1, .int x2), (2, .long x3), (4, .int x4)] := hl
    refine q_put (ci := 14) (j := 0) (v := .int lx39) (ty := .int) C0 V i_DR o_DR n_DR rfl rfl hT0 (by decide) w_1996 rfl rfl rfl rfl (Nat.le_of_ble_eq_true rfl) d_15_22_13 (fun H locs w54 hu55 hT0 V => ?_)
    replace hT0 : w54[134]? = (some (q 134, .inr (14, [.int lx39, .ref (q 135), .int t0_1, .ref (q 136), .ref (q 137), .ref (q 138), .ref (q 139), .ref (q 140), .int t0_2, .long t0_3, .int t0_4, .int t0_5, .ref (q 141), .int t0_6, .ref (q 142), .int t0_7, .ref (q 143), .int t0_8, .ref (q 144), .int t0_9, .int t0_10])) : Option (Nat × va_E)) := hT0
    replace hI := n_p134 hI hu55 hT0 (by first | with_reducible exact q_fe btt0_1 | exact ⟨(by have t1 : 0 ≤ t0_1.toInt ∧ t0_1.toInt ≤ 4100 := btt0_1; omega), (by have t1 : 0 ≤ t0_1.toInt ∧ t0_1.toInt ≤ 4100 := btt0_1; omega)⟩) (by first | with_reducible exact q_fe btt0_4 | exact ⟨(by have t1 : 0 ≤ t0_4.toInt ∧ t0_4.toInt ≤ 1 := btt0_4; omega), (by have t1 : 0 ≤ t0_4.toInt ∧ t0_4.toInt ≤ 1 := btt0_4; omega)⟩) (by first | with_reducible exact q_fe btt0_5 | exact ⟨(by have t1 : 0 ≤ t0_5.toInt ∧ t0_5.toInt ≤ 1 := btt0_5; omega), (by have t1 : 0 ≤ t0_5.toInt ∧ t0_5.toInt ≤ 1 := btt0_5; omega)⟩) (by first | with_reducible exact q_fe btt0_9 | exact ⟨(by have t1 : 0 ≤ t0_9.toInt ∧ t0_9.toInt ≤ 12200 := btt0_9; omega), (by have t1 : 0 ≤ t0_9.toInt ∧ t0_9.toInt ≤ 12200 := btt0_9; omega)⟩)
    replace hT1 := (hu55 _ (by decide)).trans hT1
    replace hT2 := (hu55 _ (by decide)).trans hT2
    replace hT3 := (hu55 _ (by decide)).trans hT3
    replace hT4 := (hu55 _ (by decide)).trans hT4
    replace hT5 := (hu55 _ (by decide)).trans hT5
    replace hF := q_us hF hu55 (by simp)
    refine lv_aload_n hx hb d_15_22_16 rfl (lv_at hl 0 rfl) ?_
    refine q_get (ci := 14) (j := 0) (v := .int lx39) C0 V i_DR rfl rfl hT0 (by decide) w_1996 rfl d_15_22_17 ?_
    refine lv_if_le (tgt := 24) hx hb d_15_22_20 (by decide) (fun c56 => ?_) (fun c56 => ?_)
    ·
      have b57 : q_F (lx39.toInt ≤ 0) := (q_leI c56)
      refine lv_aload_n hx hb d_15_22_24 rfl (lv_at hl 0 rfl) ?_
      refine lv_iconst (v := 2) hx hb d_15_22_25 (by decide) ?_
      refine q_put (ci := 14) (j := 20) (v := .int 2) (ty := .int) C0 V i_DR o_DR n_DR rfl rfl hT0 (by decide) w_2024 rfl rfl rfl rfl (Nat.le_of_ble_eq_true rfl) d_15_22_26 (fun H locs w58 hu59 hT0 V => ?_)
      replace hT0 : w58[134]? = (some (q 134, .inr (14, [.int lx39, .ref (q 135), .int t0_1, .ref (q 136), .ref (q 137), .ref (q 138), .ref (q 139), .ref (q 140), .int t0_2, .long t0_3, .int t0_4, .int t0_5, .ref (q 141), .int t0_6, .ref (q 142), .int t0_7, .ref (q 143), .int t0_8, .ref (q 144), .int t0_9, .int 2])) : Option (Nat × va_E)) := hT0
      replace hI := n_p134 hI hu59 hT0 (by first | with_reducible exact q_fe btt0_1 | exact ⟨(by have t1 : 0 ≤ t0_1.toInt ∧ t0_1.toInt ≤ 4100 := btt0_1; omega), (by have t1 : 0 ≤ t0_1.toInt ∧ t0_1.toInt ≤ 4100 := btt0_1; omega)⟩) (by first | with_reducible exact q_fe btt0_4 | exact ⟨(by have t1 : 0 ≤ t0_4.toInt ∧ t0_4.toInt ≤ 1 := btt0_4; omega), (by have t1 : 0 ≤ t0_4.toInt ∧ t0_4.toInt ≤ 1 := btt0_4; omega)⟩) (by first | with_reducible exact q_fe btt0_5 | exact ⟨(by have t1 : 0 ≤ t0_5.toInt ∧ t0_5.toInt ≤ 1 := btt0_5; omega), (by have t1 : 0 ≤ t0_5.toInt ∧ t0_5.toInt ≤ 1 := btt0_5; omega)⟩) (by first | with_reducible exact q_fe btt0_9 | exact ⟨(by have t1 : 0 ≤ t0_9.toInt ∧ t0_9.toInt ≤ 12200 := btt0_9; omega), (by have t1 : 0 ≤ t0_9.toInt ∧ t0_9.toInt ≤ 12200 := btt0_9; omega)⟩)
      replace hT1 := (hu59 _ (by decide)).trans hT1
      replace hT2 := (hu59 _ (by decide)).trans hT2
      replace hT3 := (hu59 _ (by decide)).trans hT3
      replace hT4 := (hu59 _ (by decide)).trans hT4
      replace hT5 := (hu59 _ (by decide)).trans hT5
      replace hF := q_us hF hu59 (by simp)
      refine lv_aload_n hx hb d_15_22_29 rfl (lv_at hl 0 rfl) ?_
      refine lv_lload_n hx hb d_15_22_30 rfl (lv_at hl 2 rfl) ?_
      refine lv_lconst (v := 0) hx hb d_15_22_31 (by decide) ?_
      refine W.lcmp hx hb d_15_22_32 ?_
      obtain ⟨a60, e61⟩ := q_nm (lg_cmp x3 0 : Int32)
      refine q_ti (v := a60) e61 ?_
      refine q_join (X := Int32) (fun z H locs ls _ => q_F (lx39.toInt ≤ z.toInt) ∧ q_F (z.toInt ≤ lx39.toInt + 1) ∧ q_Wd D g (va_A ws sz) s w58 H locs ∧ lv_has ls 10 [(0, .ref (q 134)), (1, .int x2), (2, .long x3), (4, .int x4)] ∧ F_DR_put_J41 x2 x3 x4 t0_0 t0_1 t0_2 t0_3 t0_4 t0_5 t0_6 t0_7 t0_8 t0_9 t0_10 t1_0 t2_0 t3_0 t4_0 t5_0 lx39 z = (F_DR_put x2 x3 x4 t0_0 t0_1 t0_2 t0_3 t0_4 t0_5 t0_6 t0_7 t0_8 t0_9 t0_10 t1_0 t2_0 t3_0 t4_0 t5_0) ∧ True ∧ S_DR_put_J41 x2 x3 x4 t0_0 t0_1 t0_2 t0_3 t0_4 t0_5 t0_6 t0_7 t0_8 t0_9 t0_10 t1_0 t2_0 t3_0 t4_0 t5_0 lx39 z) (fun z => [.int z, .ref (q 134)]) 41 0 0 ?_ ?_
      ·
        rintro lx63 H locs ls _ hZ9
        obtain ⟨i71, hZ9⟩ := hZ9
        obtain ⟨i72, hZ9⟩ := hZ9
        obtain ⟨V, hZ9⟩ := hZ9
        obtain ⟨hl, hZ9⟩ := hZ9
        obtain ⟨hR73, hS74⟩ := hZ9
        replace i71 : q_F (lx39.toInt ≤ lx63.toInt) := i71
        replace i72 : q_F (lx63.toInt ≤ lx39.toInt + 1) := i72
        replace hl : lv_has ls 10 [(0, .ref (q 134)), (1, .int x2), (2, .long x3), (4, .int x4)] := hl
        refine q_put (ci := 14) (j := 11) (v := .int lx63) (ty := .boolean) C0 V i_DR o_DR n_DR rfl rfl hT0 (by decide) w_2014 rfl rfl (q_nz01 (q_Ile (x := 0) (y := lx63.toInt) (by decide) rfl (by have t1 : 0 ≤ lx39.toInt := i47; have t2 : lx39.toInt ≤ lx63.toInt := i71; omega)) (q_Ile (x := lx63.toInt) (y := 1) rfl (by decide) (by have t1 : lx39.toInt ≤ 0 := b57; have t2 : lx63.toInt ≤ lx39.toInt + 1 := i72; omega))) (q_fz01 (q_Ile (x := 0) (y := lx63.toInt) (by decide) rfl (by have t1 : 0 ≤ lx39.toInt := i47; have t2 : lx39.toInt ≤ lx63.toInt := i71; omega)) (q_Ile (x := lx63.toInt) (y := 1) rfl (by decide) (by have t1 : lx39.toInt ≤ 0 := b57; have t2 : lx63.toInt ≤ lx39.toInt + 1 := i72; omega))) (Nat.le_of_ble_eq_true rfl) d_15_22_41 (fun H locs w78 hu79 hT0 V => ?_)
        replace hT0 : w78[134]? = (some (q 134, .inr (14, [.int lx39, .ref (q 135), .int t0_1, .ref (q 136), .ref (q 137), .ref (q 138), .ref (q 139), .ref (q 140), .int t0_2, .long t0_3, .int t0_4, .int lx63, .ref (q 141), .int t0_6, .ref (q 142), .int t0_7, .ref (q 143), .int t0_8, .ref (q 144), .int t0_9, .int 2])) : Option (Nat × va_E)) := hT0
        replace hI := n_p134 hI hu79 hT0 (by first | with_reducible exact q_fe btt0_1 | exact ⟨(by have t1 : 0 ≤ t0_1.toInt ∧ t0_1.toInt ≤ 4100 := btt0_1; omega), (by have t1 : 0 ≤ t0_1.toInt ∧ t0_1.toInt ≤ 4100 := btt0_1; omega)⟩) (by first | with_reducible exact q_fe btt0_4 | exact ⟨(by have t1 : 0 ≤ t0_4.toInt ∧ t0_4.toInt ≤ 1 := btt0_4; omega), (by have t1 : 0 ≤ t0_4.toInt ∧ t0_4.toInt ≤ 1 := btt0_4; omega)⟩) ⟨(by have t1 : 0 ≤ lx39.toInt := i47; have t2 : lx39.toInt ≤ lx63.toInt := i71; omega), (by have t1 : lx39.toInt ≤ 0 := b57; have t2 : lx63.toInt ≤ lx39.toInt + 1 := i72; omega)⟩ (by first | with_reducible exact q_fe btt0_9 | exact ⟨(by have t1 : 0 ≤ t0_9.toInt ∧ t0_9.toInt ≤ 12200 := btt0_9; omega), (by have t1 : 0 ≤ t0_9.toInt ∧ t0_9.toInt ≤ 12200 := btt0_9; omega)⟩)
        replace hT1 := (hu79 _ (by decide)).trans hT1
        replace hT2 := (hu79 _ (by decide)).trans hT2
        replace hT3 := (hu79 _ (by decide)).trans hT3
        replace hT4 := (hu79 _ (by decide)).trans hT4
        replace hT5 := (hu79 _ (by decide)).trans hT5
        replace hF := q_us hF hu79 (by simp)
        refine lv_aload_n hx hb d_15_22_44 rfl (lv_at hl 0 rfl) ?_
        refine lv_iconst (v := 0) hx hb d_15_22_45 (by decide) ?_
        refine q_put (ci := 14) (j := 10) (v := .int 0) (ty := .boolean) C0 V i_DR o_DR n_DR rfl rfl hT0 (by decide) w_2013 rfl rfl rfl rfl (Nat.le_of_ble_eq_true rfl) d_15_22_46 (fun H locs w80 hu81 hT0 V => ?_)
        replace hT0 : w80[134]? = (some (q 134, .inr (14, [.int lx39, .ref (q 135), .int t0_1, .ref (q 136), .ref (q 137), .ref (q 138), .ref (q 139), .ref (q 140), .int t0_2, .long t0_3, .int 0, .int lx63, .ref (q 141), .int t0_6, .ref (q 142), .int t0_7, .ref (q 143), .int t0_8, .ref (q 144), .int t0_9, .int 2])) : Option (Nat × va_E)) := hT0
        replace hI := n_p134 hI hu81 hT0 (by first | with_reducible exact q_fe btt0_1 | exact ⟨(by have t1 : 0 ≤ t0_1.toInt ∧ t0_1.toInt ≤ 4100 := btt0_1; omega), (by have t1 : 0 ≤ t0_1.toInt ∧ t0_1.toInt ≤ 4100 := btt0_1; omega)⟩) ⟨(by have z9 : (0 : Int32).toInt = 0 := rfl; omega), (by have z9 : (0 : Int32).toInt = 0 := rfl; omega)⟩ ⟨(by have t1 : 0 ≤ lx39.toInt := i47; have t2 : lx39.toInt ≤ lx63.toInt := i71; omega), (by have t1 : lx39.toInt ≤ 0 := b57; have t2 : lx63.toInt ≤ lx39.toInt + 1 := i72; omega)⟩ (by first | with_reducible exact q_fe btt0_9 | exact ⟨(by have t1 : 0 ≤ t0_9.toInt ∧ t0_9.toInt ≤ 12200 := btt0_9; omega), (by have t1 : 0 ≤ t0_9.toInt ∧ t0_9.toInt ≤ 12200 := btt0_9; omega)⟩)
        replace hT1 := (hu81 _ (by decide)).trans hT1
        replace hT2 := (hu81 _ (by decide)).trans hT2
        replace hT3 := (hu81 _ (by decide)).trans hT3
        replace hT4 := (hu81 _ (by decide)).trans hT4
        replace hT5 := (hu81 _ (by decide)).trans hT5
        replace hF := q_us hF hu81 (by simp)
        refine lv_aload_n hx hb d_15_22_49 rfl (lv_at hl 0 rfl) ?_
        refine lv_iload hx hb d_15_22_50 (lv_at hl 3 rfl) ?_
        refine lv_i2l hx hb d_15_22_52 rfl ?_
        obtain ⟨j82, e83⟩ := q_nm (x4.toInt64 : Int64)
        refine q_tl (v := j82) e83 ?_
        refine q_put (ci := 14) (j := 9) (v := .long j82) (ty := .long) C0 V i_DR o_DR n_DR rfl rfl hT0 (by decide) w_2012 rfl rfl rfl rfl (Nat.le_of_ble_eq_true rfl) d_15_22_53 (fun H locs w85 hu86 hT0 V => ?_)
        replace hT0 : w85[134]? = (some (q 134, .inr (14, [.int lx39, .ref (q 135), .int t0_1, .ref (q 136), .ref (q 137), .ref (q 138), .ref (q 139), .ref (q 140), .int t0_2, .long j82, .int 0, .int lx63, .ref (q 141), .int t0_6, .ref (q 142), .int t0_7, .ref (q 143), .int t0_8, .ref (q 144), .int t0_9, .int 2])) : Option (Nat × va_E)) := hT0
        replace hI := n_p134 hI hu86 hT0 (by first | with_reducible exact q_fe btt0_1 | exact ⟨(by have t1 : 0 ≤ t0_1.toInt ∧ t0_1.toInt ≤ 4100 := btt0_1; omega), (by have t1 : 0 ≤ t0_1.toInt ∧ t0_1.toInt ≤ 4100 := btt0_1; omega)⟩) ⟨(by have z9 : (0 : Int32).toInt = 0 := rfl; omega), (by have z9 : (0 : Int32).toInt = 0 := rfl; omega)⟩ ⟨(by have t1 : 0 ≤ lx39.toInt := i47; have t2 : lx39.toInt ≤ lx63.toInt := i71; omega), (by have t1 : lx39.toInt ≤ 0 := b57; have t2 : lx63.toInt ≤ lx39.toInt + 1 := i72; omega)⟩ (by first | with_reducible exact q_fe btt0_9 | exact ⟨(by have t1 : 0 ≤ t0_9.toInt ∧ t0_9.toInt ≤ 12200 := btt0_9; omega), (by have t1 : 0 ≤ t0_9.toInt ∧ t0_9.toInt ≤ 12200 := btt0_9; omega)⟩)
        replace hT1 := (hu86 _ (by decide)).trans hT1
        replace hT2 := (hu86 _ (by decide)).trans hT2
        replace hT3 := (hu86 _ (by decide)).trans hT3
        replace hT4 := (hu86 _ (by decide)).trans hT4
        replace hT5 := (hu86 _ (by decide)).trans hT5
        replace hF := q_us hF hu86 (by simp)
        refine lv_aload_n hx hb d_15_22_56 rfl (lv_at hl 0 rfl) ?_
        refine lv_bipush (v := 19) hx hb d_15_22_57 (by decide) ?_
        refine q_put (ci := 14) (j := 8) (v := .int 19) (ty := .int) C0 V i_DR o_DR n_DR rfl rfl hT0 (by decide) w_2011 rfl rfl rfl rfl (Nat.le_of_ble_eq_true rfl) d_15_22_59 (fun H locs w87 hu88 hT0 V => ?_)
        replace hT0 : w87[134]? = (some (q 134, .inr (14, [.int lx39, .ref (q 135), .int t0_1, .ref (q 136), .ref (q 137), .ref (q 138), .ref (q 139), .ref (q 140), .int 19, .long j82, .int 0, .int lx63, .ref (q 141), .int t0_6, .ref (q 142), .int t0_7, .ref (q 143), .int t0_8, .ref (q 144), .int t0_9, .int 2])) : Option (Nat × va_E)) := hT0
        replace hI := n_p134 hI hu88 hT0 (by first | with_reducible exact q_fe btt0_1 | exact ⟨(by have t1 : 0 ≤ t0_1.toInt ∧ t0_1.toInt ≤ 4100 := btt0_1; omega), (by have t1 : 0 ≤ t0_1.toInt ∧ t0_1.toInt ≤ 4100 := btt0_1; omega)⟩) ⟨(by have z9 : (0 : Int32).toInt = 0 := rfl; omega), (by have z9 : (0 : Int32).toInt = 0 := rfl; omega)⟩ ⟨(by have t1 : 0 ≤ lx39.toInt := i47; have t2 : lx39.toInt ≤ lx63.toInt := i71; omega), (by have t1 : lx39.toInt ≤ 0 := b57; have t2 : lx63.toInt ≤ lx39.toInt + 1 := i72; omega)⟩ (by first | with_reducible exact q_fe btt0_9 | exact ⟨(by have t1 : 0 ≤ t0_9.toInt ∧ t0_9.toInt ≤ 12200 := btt0_9; omega), (by have t1 : 0 ≤ t0_9.toInt ∧ t0_9.toInt ≤ 12200 := btt0_9; omega)⟩)
        replace hT1 := (hu88 _ (by decide)).trans hT1
        replace hT2 := (hu88 _ (by decide)).trans hT2
        replace hT3 := (hu88 _ (by decide)).trans hT3
        replace hT4 := (hu88 _ (by decide)).trans hT4
        replace hT5 := (hu88 _ (by decide)).trans hT5
        replace hF := q_us hF hu88 (by simp)
        refine lv_lload_n hx hb d_15_22_62 rfl (lv_at hl 2 rfl) ?_
        refine lv_lstore (lv' := [(5, .long x3), (0, .ref (q 134)), (1, .int x2), (2, .long x3), (4, .int x4)]) hx hb d_15_22_63 hl (by decide) rfl (fun ls hl => ?_)
        refine lv_bipush (v := 18) hx hb d_15_22_65 (by decide) ?_
        refine lv_istore (lv' := [(7, .int 18), (5, .long x3), (0, .ref (q 134)), (1, .int x2), (2, .long x3), (4, .int x4)]) hx hb d_15_22_67 hl (by decide) rfl (fun ls hl => ?_)
        refine q_loop (X := Int32 × Int64 × (Nat → Int32)) (fun z H locs ls w97 => q_F (0 ≤ z.1.toInt + 1) ∧ q_F (z.1.toInt ≤ lx39.toInt + 18) ∧ q_Wd D g (va_A ws sz) s w97 H locs ∧ lv_has ls 10 [(7, .int z.1), (5, .long z.2.1), (0, .ref (q 134)), (1, .int x2)] ∧ q_I (msh g q) q w97 ∧ q_un ws w97 [134, 136, 137, 138, 139, 140] ∧ w97[134]? = (some (q 134, .inr (14, [.int lx39, .ref (q 135), .int t0_1, .ref (q 136), .ref (q 137), .ref (q 138), .ref (q 139), .ref (q 140), .int 19, .long j82, .int 0, .int lx63, .ref (q 141), .int t0_6, .ref (q 142), .int t0_7, .ref (q 143), .int t0_8, .ref (q 144), .int t0_9, .int 2])) : Option (Nat × va_E)) ∧ w97[136]? = (some (q 136, .inl (g 0, (10000 : Int32).toNatClampNeg, .inl t1_0)) : Option (Nat × va_E)) ∧ w97[137]? = (some (q 137, .inl (g 0, (10 : Int32).toNatClampNeg, .inl t2_0)) : Option (Nat × va_E)) ∧ w97[138]? = (some (q 138, .inl (g 3, 10, .inl t3_0)) : Option (Nat × va_E)) ∧ w97[139]? = (some (q 139, .inl (g 0, (10 : Int32).toNatClampNeg, .inl t4_0)) : Option (Nat × va_E)) ∧ w97[140]? = (some (q 140, .inl (g 0, (4400 : Int32).toNatClampNeg, .inl z.2.2)) : Option (Nat × va_E)) ∧ (∃ n, (z.1.toInt - ((-1))).toNat < n ∧ F_DR_put_L69 x2 x3 x4 t0_0 t0_1 t0_2 t0_3 t0_4 t0_5 t0_6 t0_7 t0_8 t0_9 t0_10 t1_0 t2_0 t3_0 t4_0 t5_0 lx39 lx63 j82 n z.1 z.2.1 z.2.2 = (F_DR_put x2 x3 x4 t0_0 t0_1 t0_2 t0_3 t0_4 t0_5 t0_6 t0_7 t0_8 t0_9 t0_10 t1_0 t2_0 t3_0 t4_0 t5_0) ∧ True ∧ S_DR_put_L69 x2 x3 x4 t0_0 t0_1 t0_2 t0_3 t0_4 t0_5 t0_6 t0_7 t0_8 t0_9 t0_10 t1_0 t2_0 t3_0 t4_0 t5_0 lx39 lx63 j82 n z.1 z.2.1 z.2.2)) (fun z => (z.1.toInt - ((-1))).toNat) ?_ ((18 : Int32), (x3 : Int64), (t5_0 : (Nat → Int32))) _ _ _ w87 ⟨(show q_F (0 ≤ 18 + 1) from (show 0 ≤ 18 + 1 from by omega)), (show q_F (18 ≤ lx39.toInt + 18) from (show 18 ≤ lx39.toInt + 18 from by have t1 : 0 ≤ lx39.toInt := i47; omega)), V, q_lw hl (q_lw1 0 rfl (q_lw1 1 rfl (q_lw1 2 rfl (q_lw1 3 rfl q_lw0)))), hI, hF, hT0, hT1, hT2, hT3, hT4, hT5, ⟨(((18 : Int32).toInt - ((-1))).toNat + 1), Nat.lt_succ_self _, (show F_DR_put_L69 x2 x3 x4 t0_0 t0_1 t0_2 t0_3 t0_4 t0_5 t0_6 t0_7 t0_8 t0_9 t0_10 t1_0 t2_0 t3_0 t4_0 t5_0 lx39 lx63 j82 (((18 : Int32).toInt - ((-1))).toNat + 1) 18 x3 t5_0 = (F_DR_put x2 x3 x4 t0_0 t0_1 t0_2 t0_3 t0_4 t0_5 t0_6 t0_7 t0_8 t0_9 t0_10 t1_0 t2_0 t3_0 t4_0 t5_0) from Eq.trans (by rw [← e83, F_DR_put_J41.eq_1]) hR73), (show True ∧ S_DR_put_L69 x2 x3 x4 t0_0 t0_1 t0_2 t0_3 t0_4 t0_5 t0_6 t0_7 t0_8 t0_9 t0_10 t1_0 t2_0 t3_0 t4_0 t5_0 lx39 lx63 j82 (((18 : Int32).toInt - ((-1))).toNat + 1) 18 x3 t5_0 from (by rw [← e83]; have h := hS74; rw [S_DR_put_J41.eq_1] at h; with_reducible exact h))⟩⟩
        rintro ⟨lx91, lx92, lx93⟩ H locs ls w97 ⟨i94, i95, V, hl, hI, hF, hO98, hO99, hO100, hO101, hO102, hO103, ⟨fu106, hf107, hR104, hS105⟩⟩ ih96
        obtain ⟨fm108, rfl⟩ : ∃ m, fu106 = m + 1 := ⟨fu106 - 1, by omega⟩
        replace i94 : q_F (0 ≤ lx91.toInt + 1) := i94
        replace i95 : q_F (lx91.toInt ≤ lx39.toInt + 18) := i95
        replace hl : lv_has ls 10 [(7, .int lx91), (5, .long lx92), (0, .ref (q 134)), (1, .int x2)] := hl
        replace hO98 : w97[134]? = (some (q 134, .inr (14, [.int lx39, .ref (q 135), .int t0_1, .ref (q 136), .ref (q 137), .ref (q 138), .ref (q 139), .ref (q 140), .int 19, .long j82, .int 0, .int lx63, .ref (q 141), .int t0_6, .ref (q 142), .int t0_7, .ref (q 143), .int t0_8, .ref (q 144), .int t0_9, .int 2])) : Option (Nat × va_E)) := hO98
        replace hO99 : w97[136]? = (some (q 136, .inl (g 0, (10000 : Int32).toNatClampNeg, .inl t1_0)) : Option (Nat × va_E)) := hO99
        replace hO100 : w97[137]? = (some (q 137, .inl (g 0, (10 : Int32).toNatClampNeg, .inl t2_0)) : Option (Nat × va_E)) := hO100
        replace hO101 : w97[138]? = (some (q 138, .inl (g 3, 10, .inl t3_0)) : Option (Nat × va_E)) := hO101
        replace hO102 : w97[139]? = (some (q 139, .inl (g 0, (10 : Int32).toNatClampNeg, .inl t4_0)) : Option (Nat × va_E)) := hO102
        replace hO103 : w97[140]? = (some (q 140, .inl (g 0, (4400 : Int32).toNatClampNeg, .inl lx93)) : Option (Nat × va_E)) := hO103
        refine lv_iload hx hb d_15_22_69 (lv_at hl 0 rfl) ?_
        refine lv_if_lt (tgt := 119) hx hb d_15_22_71 (by decide) (fun c109 => ?_) (fun c109 => ?_)
        ·
          refine lv_aload_n hx hb d_15_22_119 rfl (lv_at hl 2 rfl) ?_
          refine lv_iload_n hx hb d_15_22_120 rfl (lv_at hl 3 rfl) ?_
          have ob111 : True ∧ S_DR_store x2 lx39 t0_1 (19 : Int32) j82 (0 : Int32) lx63 t0_6 t0_7 t0_8 t0_9 (2 : Int32) t1_0 t2_0 t3_0 t4_0 lx93 := (by have h := hS105; rw [S_DR_put_L69.eq_2] at h; rw [if_pos c109] at h; with_reducible exact h.2.1)
          refine q_gov V (q_runV (As := [.int x2]) (rest := []) (d := 2) (mc := 0) (ms := 0) (ci := 14) C0 V rfl LV_DR_89 (X_DR_store l D g q w97  x2 hI lx39 t0_1 19 j82 0 lx63 t0_6 t0_7 t0_8 t0_9 2 hO98 t1_0 hO99 t2_0 hO100 t3_0 hO101 t4_0 hO102 lx93 hO103 ob111 _) rfl rfl hO98 rfl hl.1 rfl (Nat.le_of_ble_eq_true rfl) ⟨by decide, by decide⟩ ⟨Nat.le_of_ble_eq_true rfl, Nat.le_of_ble_eq_true rfl⟩ d_15_22_121) (fun u112 H locs hp113 V => ?_)
          obtain ⟨hI, hZ9⟩ := hp113
          obtain ⟨hu159, hZ9⟩ := hZ9
          obtain ⟨y115, hZ9⟩ := hZ9
          obtain ⟨y116, hZ9⟩ := hZ9
          obtain ⟨y117, hZ9⟩ := hZ9
          obtain ⟨y118, hZ9⟩ := hZ9
          obtain ⟨y119, hZ9⟩ := hZ9
          obtain ⟨y120, hZ9⟩ := hZ9
          obtain ⟨y121, hZ9⟩ := hZ9
          obtain ⟨y122, hZ9⟩ := hZ9
          obtain ⟨y123, hZ9⟩ := hZ9
          obtain ⟨y124, hZ9⟩ := hZ9
          obtain ⟨y125, hZ9⟩ := hZ9
          obtain ⟨f126, hZ9⟩ := hZ9
          obtain ⟨f128, hZ9⟩ := hZ9
          obtain ⟨f130, hZ9⟩ := hZ9
          obtain ⟨f132, hZ9⟩ := hZ9
          obtain ⟨f134, hZ9⟩ := hZ9
          obtain ⟨hO114, hZ9⟩ := hZ9
          obtain ⟨hA127, hZ9⟩ := hZ9
          obtain ⟨hA129, hZ9⟩ := hZ9
          obtain ⟨hA131, hZ9⟩ := hZ9
          obtain ⟨hA133, hZ9⟩ := hZ9
          obtain ⟨hA135, hZ9⟩ := hZ9
          obtain ⟨b136, hZ9⟩ := hZ9
          obtain ⟨b137, hZ9⟩ := hZ9
          obtain ⟨b138, hZ9⟩ := hZ9
          replace hZ9 := hZ9.2.2.2.2
          obtain ⟨b143, hZ9⟩ := hZ9
          obtain ⟨b144, hZ9⟩ := hZ9
          replace hZ9 := hZ9.2
          obtain ⟨b146, hZ9⟩ := hZ9
          obtain ⟨b147, hZ9⟩ := hZ9
          obtain ⟨b148, hZ9⟩ := hZ9
          obtain ⟨b149, hZ9⟩ := hZ9
          obtain ⟨b150, hZ9⟩ := hZ9
          obtain ⟨b151, hZ9⟩ := hZ9
          obtain ⟨b152, hZ9⟩ := hZ9
          replace hZ9 := hZ9.2
          obtain ⟨b154, hZ9⟩ := hZ9
          obtain ⟨b155, hZ9⟩ := hZ9
          replace hZ9 := hZ9.2
          obtain ⟨-, hE158⟩ := hZ9
          replace hO114 : u112[134]? = (some (q 134, .inr (14, [.int y115, .ref (q 135), .int y116, .ref (q 136), .ref (q 137), .ref (q 138), .ref (q 139), .ref (q 140), .int y117, .long y118, .int y119, .int y120, .ref (q 141), .int y121, .ref (q 142), .int y122, .ref (q 143), .int y123, .ref (q 144), .int y124, .int y125])) : Option (Nat × va_E)) := hO114
          replace hA127 : u112[136]? = (some (q 136, .inl (g 0, (10000 : Int32).toNatClampNeg, .inl f126)) : Option (Nat × va_E)) := hA127
          replace hA129 : u112[137]? = (some (q 137, .inl (g 0, (10 : Int32).toNatClampNeg, .inl f128)) : Option (Nat × va_E)) := hA129
          replace hA131 : u112[138]? = (some (q 138, .inl (g 3, 10, .inl f130)) : Option (Nat × va_E)) := hA131
          replace hA133 : u112[139]? = (some (q 139, .inl (g 0, (10 : Int32).toNatClampNeg, .inl f132)) : Option (Nat × va_E)) := hA133
          replace hA135 : u112[140]? = (some (q 140, .inl (g 0, (4400 : Int32).toNatClampNeg, .inl f134)) : Option (Nat × va_E)) := hA135
          obtain ⟨p160, e161⟩ : ∃ z, z = (F_DR_store x2 lx39 t0_1 (19 : Int32) j82 (0 : Int32) lx63 t0_6 t0_7 t0_8 t0_9 (2 : Int32) t1_0 t2_0 t3_0 t4_0 lx93) := ⟨_, rfl⟩
          have e162 : y115 = p160.1 := congrArg (fun z => z.1) (hE158.trans e161.symm)
          have e163 : y116 = p160.2.1 := congrArg (fun z => z.2.1) (hE158.trans e161.symm)
          have e164 : y117 = p160.2.2.1 := congrArg (fun z => z.2.2.1) (hE158.trans e161.symm)
          have e165 : y118 = p160.2.2.2.1 := congrArg (fun z => z.2.2.2.1) (hE158.trans e161.symm)
          have e166 : y119 = p160.2.2.2.2.1 := congrArg (fun z => z.2.2.2.2.1) (hE158.trans e161.symm)
          have e167 : y120 = p160.2.2.2.2.2.1 := congrArg (fun z => z.2.2.2.2.2.1) (hE158.trans e161.symm)
          have e168 : y121 = p160.2.2.2.2.2.2.1 := congrArg (fun z => z.2.2.2.2.2.2.1) (hE158.trans e161.symm)
          have e169 : y122 = p160.2.2.2.2.2.2.2.1 := congrArg (fun z => z.2.2.2.2.2.2.2.1) (hE158.trans e161.symm)
          have e170 : y123 = p160.2.2.2.2.2.2.2.2.1 := congrArg (fun z => z.2.2.2.2.2.2.2.2.1) (hE158.trans e161.symm)
          have e171 : y124 = p160.2.2.2.2.2.2.2.2.2.1 := congrArg (fun z => z.2.2.2.2.2.2.2.2.2.1) (hE158.trans e161.symm)
          have e172 : y125 = p160.2.2.2.2.2.2.2.2.2.2.1 := congrArg (fun z => z.2.2.2.2.2.2.2.2.2.2.1) (hE158.trans e161.symm)
          have e173 : f126 = p160.2.2.2.2.2.2.2.2.2.2.2.1 := congrArg (fun z => z.2.2.2.2.2.2.2.2.2.2.2.1) (hE158.trans e161.symm)
          have e174 : f128 = p160.2.2.2.2.2.2.2.2.2.2.2.2.1 := congrArg (fun z => z.2.2.2.2.2.2.2.2.2.2.2.2.1) (hE158.trans e161.symm)
          have e175 : f130 = p160.2.2.2.2.2.2.2.2.2.2.2.2.2.1 := congrArg (fun z => z.2.2.2.2.2.2.2.2.2.2.2.2.2.1) (hE158.trans e161.symm)
          have e176 : f132 = p160.2.2.2.2.2.2.2.2.2.2.2.2.2.2.1 := congrArg (fun z => z.2.2.2.2.2.2.2.2.2.2.2.2.2.2.1) (hE158.trans e161.symm)
          have e177 : f134 = p160.2.2.2.2.2.2.2.2.2.2.2.2.2.2.2 := congrArg (fun z => z.2.2.2.2.2.2.2.2.2.2.2.2.2.2.2) (hE158.trans e161.symm)
          replace b136 : q_F (0 ≤ y120.toInt) := b136
          replace b137 : q_F (t0_1.toInt ≤ y116.toInt) := b137
          replace b138 : q_F (y116.toInt ≤ t0_1.toInt) := b138
          replace b143 : q_F (0 ≤ y119.toInt) := b143
          replace b144 : q_F (y119.toInt ≤ 0) := b144
          replace b146 : q_F (y120.toInt ≤ lx63.toInt) := b146
          replace b147 : q_F (t0_6.toInt ≤ y121.toInt) := b147
          replace b148 : q_F (y121.toInt ≤ t0_6.toInt) := b148
          replace b149 : q_F (t0_7.toInt ≤ y122.toInt) := b149
          replace b150 : q_F (y122.toInt ≤ t0_7.toInt) := b150
          replace b151 : q_F (t0_8.toInt ≤ y123.toInt) := b151
          replace b152 : q_F (y123.toInt ≤ t0_8.toInt) := b152
          replace b154 : q_F (t0_9.toInt ≤ y124.toInt) := b154
          replace b155 : q_F (y124.toInt ≤ t0_9.toInt) := b155
          replace hF := q_uc hF hu159 (by simp)
          have hR178 := (show F_DR_put_c121 (F_DR_put_L69 x2 x3 x4 t0_0 t0_1 t0_2 t0_3 t0_4 t0_5 t0_6 t0_7 t0_8 t0_9 t0_10 t1_0 t2_0 t3_0 t4_0 t5_0 lx39 lx63 j82 fm108) x2 x3 x4 t0_0 t0_1 t0_2 t0_3 t0_4 t0_5 t0_6 t0_7 t0_8 t0_9 t0_10 t1_0 t2_0 t3_0 t4_0 t5_0 lx39 lx63 j82 lx91 lx92 lx93 p160 = (F_DR_put x2 x3 x4 t0_0 t0_1 t0_2 t0_3 t0_4 t0_5 t0_6 t0_7 t0_8 t0_9 t0_10 t1_0 t2_0 t3_0 t4_0 t5_0) from Eq.trans (by rw [e161, F_DR_put_L69.eq_2, if_pos c109]) hR104)
          have hS179 := (show True ∧ S_DR_put_c121 (S_DR_put_L69 x2 x3 x4 t0_0 t0_1 t0_2 t0_3 t0_4 t0_5 t0_6 t0_7 t0_8 t0_9 t0_10 t1_0 t2_0 t3_0 t4_0 t5_0 lx39 lx63 j82 fm108) x2 x3 x4 t0_0 t0_1 t0_2 t0_3 t0_4 t0_5 t0_6 t0_7 t0_8 t0_9 t0_10 t1_0 t2_0 t3_0 t4_0 t5_0 lx39 lx63 j82 lx91 lx92 lx93 p160 from (by rw [e161]; have h := hS105; rw [S_DR_put_L69.eq_2] at h; rw [if_pos c109] at h; replace h := q_s2 h; with_reducible exact h))
          exact q_retv C0 V (⟨hI, hF, y115, y116, y117, y118, y119, y120, y121, y122, y123, y124, y125, f126, f128, f130, f132, f134, hO114, hA127, hA129, hA131, hA133, hA135, (show 0 ≤ y119.toInt from (by first | with_reducible exact q_fe b143 | (have t1 : 0 ≤ y119.toInt := b143; omega))), (show 0 ≤ y120.toInt from (by first | with_reducible exact q_fe b136 | (have t1 : 0 ≤ y120.toInt := b136; omega))), (show y120.toInt ≤ 1 from (by have t1 : lx39.toInt ≤ 0 := b57; have t2 : lx63.toInt ≤ lx39.toInt + 1 := i72; have t3 : y120.toInt ≤ lx63.toInt := b146; omega)), (show t0_1.toInt ≤ y116.toInt from (by first | with_reducible exact q_fe b137 | (have t1 : t0_1.toInt ≤ y116.toInt := b137; omega))), (show y116.toInt ≤ t0_1.toInt from (by first | with_reducible exact q_fe b138 | (have t1 : y116.toInt ≤ t0_1.toInt := b138; omega))), (show y119.toInt ≤ t0_4.toInt from (by have t1 : 0 ≤ t0_4.toInt ∧ t0_4.toInt ≤ 1 := btt0_4; have t2 : y119.toInt ≤ 0 := b144; omega)), (show t0_6.toInt ≤ y121.toInt from (by first | with_reducible exact q_fe b147 | (have t1 : t0_6.toInt ≤ y121.toInt := b147; omega))), (show y121.toInt ≤ t0_6.toInt from (by first | with_reducible exact q_fe b148 | (have t1 : y121.toInt ≤ t0_6.toInt := b148; omega))), (show t0_7.toInt ≤ y122.toInt from (by first | with_reducible exact q_fe b149 | (have t1 : t0_7.toInt ≤ y122.toInt := b149; omega))), (show y122.toInt ≤ t0_7.toInt from (by first | with_reducible exact q_fe b150 | (have t1 : y122.toInt ≤ t0_7.toInt := b150; omega))), (show t0_8.toInt ≤ y123.toInt from (by first | with_reducible exact q_fe b151 | (have t1 : t0_8.toInt ≤ y123.toInt := b151; omega))), (show y123.toInt ≤ t0_8.toInt from (by first | with_reducible exact q_fe b152 | (have t1 : y123.toInt ≤ t0_8.toInt := b152; omega))), (show t0_9.toInt ≤ y124.toInt from (by first | with_reducible exact q_fe b154 | (have t1 : t0_9.toInt ≤ y124.toInt := b154; omega))), (show y124.toInt ≤ t0_9.toInt from (by first | with_reducible exact q_fe b155 | (have t1 : y124.toInt ≤ t0_9.toInt := b155; omega))), (show (y115, y116, y117, y118, y119, y120, y121, y122, y123, y124, y125, f126, f128, f130, f132, f134) = (F_DR_put x2 x3 x4 t0_0 t0_1 t0_2 t0_3 t0_4 t0_5 t0_6 t0_7 t0_8 t0_9 t0_10 t1_0 t2_0 t3_0 t4_0 t5_0) from Eq.trans (by rw [e177, e176, e175, e174, e173, e172, e171, e170, e169, e168, e167, e166, e165, e164, e163, e162, F_DR_put_c121.eq_1]) hR178)⟩) d_15_22_124
        ·
          have b183 : q_F (0 ≤ lx91.toInt) := (q_nltI c109)
          refine lv_lload hx hb d_15_22_74 (lv_at hl 1 rfl) ?_
          refine q_ldc2 C0 rfl w_2407 d_15_22_76 ?_
          refine lv_lrem hx hb d_15_22_79 (by decide) ?_
          obtain ⟨j184, e185⟩ := q_nm (lx92 - lx92 / 10 * 10 : Int64)
          refine q_tl (v := j184) e185 ?_
          refine lv_lstore (lv' := [(8, .long j184), (7, .int lx91), (5, .long lx92), (0, .ref (q 134)), (1, .int x2)]) hx hb d_15_22_80 hl (by decide) rfl (fun ls hl => ?_)
          refine lv_aload_n hx hb d_15_22_82 rfl (lv_at hl 3 rfl) ?_
          refine q_get (ci := 14) (j := 7) (v := .ref (q 140)) C0 V i_DR rfl rfl hO98 (by decide) w_2010 rfl d_15_22_83 ?_
          refine lv_iload hx hb d_15_22_86 (lv_at hl 1 rfl) ?_
          refine lv_lload hx hb d_15_22_88 (lv_at hl 0 rfl) ?_
          refine lv_lconst (v := 0) hx hb d_15_22_90 (by decide) ?_
          refine W.lcmp hx hb d_15_22_91 ?_
          obtain ⟨a186, e187⟩ := q_nm (lg_cmp j184 0 : Int32)
          refine q_ti (v := a186) e187 ?_
          refine lv_if_ge (tgt := 101) hx hb d_15_22_92 (by decide) (fun c189 => ?_) (fun c189 => ?_)
          ·
            refine lv_lload hx hb d_15_22_101 (lv_at hl 0 rfl) ?_
            refine lv_l2i hx hb d_15_22_103 rfl ?_
            obtain ⟨a191, e192⟩ := q_nm (j184.toInt32 : Int32)
            refine q_ti (v := a191) e192 ?_
            refine q_iast C0 V hO103 (q_ix (x := lx91.toInt) rfl (by first | with_reducible exact q_fe b183 | (have t1 : 0 ≤ lx91.toInt := b183; omega)) (by have t1 : 0 ≤ lx91.toInt := b183; have t2 : lx39.toInt ≤ 1 := i48; have t3 : lx91.toInt ≤ lx39.toInt + 18 := i95; have e9 : (((4400 : Int32).toNatClampNeg : Nat) : Int) = 4400 := (by decide); omega)) d_15_22_104 (fun H locs w193 hu194 hO103 V => ?_)
            replace hI := n_ai' hI (n_r140 g q).1 hu194 hO103 (q_updB (fun _ => s_bnd) s_bnd)
            replace hO98 := (hu194 _ (by decide)).trans hO98
            replace hO99 := (hu194 _ (by decide)).trans hO99
            replace hO100 := (hu194 _ (by decide)).trans hO100
            replace hO101 := (hu194 _ (by decide)).trans hO101
            replace hO102 := (hu194 _ (by decide)).trans hO102
            replace hF := q_us hF hu194 (by simp)
            obtain ⟨f195, e196⟩ := q_nm (upd lx93 lx91.toNatClampNeg a191 : (Nat → Int32))
            rw [e196] at hO103
            refine lv_lload hx hb d_15_22_105 (lv_at hl 2 rfl) ?_
            refine q_ldc2 C0 rfl w_2407 d_15_22_107 ?_
            refine lv_ldiv hx hb d_15_22_110 (by decide) ?_
            obtain ⟨j197, e198⟩ := q_nm (lx92 / 10 : Int64)
            refine q_tl (v := j197) e198 ?_
            refine lv_lstore (lv' := [(5, .long j197), (8, .long j184), (7, .int lx91), (0, .ref (q 134)), (1, .int x2)]) hx hb d_15_22_111 hl (by decide) rfl (fun ls hl => ?_)
            obtain ⟨a199, e200⟩ := q_nm (lx91 + (-1) : Int32)
            have b201 : q_F (a199.toInt = lx91.toInt + (-1)) := (by rw [← e200]; exact q_addI (y := (-1)) rfl (by decide) (by have t1 : 0 ≤ lx91.toInt + 1 := i94; have _ := q_lo32 (x := lx91); have _ := q_hi32 (x := lx91); omega) (by have t1 : 0 ≤ lx91.toInt + 1 := i94; have _ := q_lo32 (x := lx91); have _ := q_hi32 (x := lx91); omega))
            refine lv_iinc (v := a199) (lv' := [(7, .int a199), (5, .long j197), (8, .long j184), (0, .ref (q 134)), (1, .int x2)]) hx hb d_15_22_113 hl (k := 2) rfl (e200) (by decide) rfl (fun ls hl => ?_)
            refine lv_goto (tgt := 69) hx hb d_15_22_116 (by decide) ?_
            exact ih96 ((a199 : Int32), (j197 : Int64), (f195 : (Nat → Int32))) _ _ _ _ (show (a199.toInt - ((-1))).toNat < (lx91.toInt - ((-1))).toNat from by have t1 : a199.toInt = lx91.toInt + (-1) := b201; have t2 : 0 ≤ lx91.toInt + 1 := i94; have t3 : 0 ≤ lx91.toInt := b183; omega) ⟨(show q_F (0 ≤ a199.toInt + 1) from (show 0 ≤ a199.toInt + 1 from by have t1 : 0 ≤ lx91.toInt := b183; have t2 : a199.toInt = lx91.toInt + (-1) := b201; omega)), (show q_F (a199.toInt ≤ lx39.toInt + 18) from (show a199.toInt ≤ lx39.toInt + 18 from by have t1 : lx91.toInt ≤ lx39.toInt + 18 := i95; have t2 : a199.toInt = lx91.toInt + (-1) := b201; omega)), V, q_lw hl (q_lw1 0 rfl (q_lw1 1 rfl (q_lw1 3 rfl (q_lw1 4 rfl q_lw0)))), hI, hF, hO98, hO99, hO100, hO101, hO102, hO103, ⟨fm108, Nat.lt_of_lt_of_le (show (a199.toInt - ((-1))).toNat < (lx91.toInt - ((-1))).toNat from by have t1 : a199.toInt = lx91.toInt + (-1) := b201; have t2 : 0 ≤ lx91.toInt + 1 := i94; have t3 : 0 ≤ lx91.toInt := b183; omega) (Nat.le_of_lt_succ hf107), (show F_DR_put_L69 x2 x3 x4 t0_0 t0_1 t0_2 t0_3 t0_4 t0_5 t0_6 t0_7 t0_8 t0_9 t0_10 t1_0 t2_0 t3_0 t4_0 t5_0 lx39 lx63 j82 fm108 a199 j197 f195 = (F_DR_put x2 x3 x4 t0_0 t0_1 t0_2 t0_3 t0_4 t0_5 t0_6 t0_7 t0_8 t0_9 t0_10 t1_0 t2_0 t3_0 t4_0 t5_0) from Eq.trans (by have c189x := c189; rw [← e187, ← e185] at c189x; rw [← e200, ← e198, ← e196, ← e192, ← e185, F_DR_put_L69.eq_2, if_neg c109, if_pos c189x]) hR104), (show True ∧ S_DR_put_L69 x2 x3 x4 t0_0 t0_1 t0_2 t0_3 t0_4 t0_5 t0_6 t0_7 t0_8 t0_9 t0_10 t1_0 t2_0 t3_0 t4_0 t5_0 lx39 lx63 j82 fm108 a199 j197 f195 from (by rw [← e200, ← e198, ← e196, ← e192, ← e185]; have h := hS105; rw [S_DR_put_L69.eq_2] at h; rw [if_neg c109] at h; have c189x := c189; rw [← e187, ← e185] at c189x; rw [if_pos c189x] at h; with_reducible exact h))⟩⟩
          ·
            refine lv_lload hx hb d_15_22_95 (lv_at hl 0 rfl) ?_
            refine lv_lneg hx hb d_15_22_97 ?_
            obtain ⟨j203, e204⟩ := q_nm (-j184 : Int64)
            refine q_tl (v := j203) e204 ?_
            refine lv_goto (tgt := 103) hx hb d_15_22_98 (by decide) ?_
            refine lv_l2i hx hb d_15_22_103 rfl ?_
            obtain ⟨a205, e206⟩ := q_nm (j203.toInt32 : Int32)
            refine q_ti (v := a205) e206 ?_
            refine q_iast C0 V hO103 (q_ix (x := lx91.toInt) rfl (by first | with_reducible exact q_fe b183 | (have t1 : 0 ≤ lx91.toInt := b183; omega)) (by have t1 : 0 ≤ lx91.toInt := b183; have t2 : lx39.toInt ≤ 1 := i48; have t3 : lx91.toInt ≤ lx39.toInt + 18 := i95; have e9 : (((4400 : Int32).toNatClampNeg : Nat) : Int) = 4400 := (by decide); omega)) d_15_22_104 (fun H locs w207 hu208 hO103 V => ?_)
            replace hI := n_ai' hI (n_r140 g q).1 hu208 hO103 (q_updB (fun _ => s_bnd) s_bnd)
            replace hO98 := (hu208 _ (by decide)).trans hO98
            replace hO99 := (hu208 _ (by decide)).trans hO99
            replace hO100 := (hu208 _ (by decide)).trans hO100
            replace hO101 := (hu208 _ (by decide)).trans hO101
            replace hO102 := (hu208 _ (by decide)).trans hO102
            replace hF := q_us hF hu208 (by simp)
            obtain ⟨f209, e210⟩ := q_nm (upd lx93 lx91.toNatClampNeg a205 : (Nat → Int32))
            rw [e210] at hO103
            refine lv_lload hx hb d_15_22_105 (lv_at hl 2 rfl) ?_
            refine q_ldc2 C0 rfl w_2407 d_15_22_107 ?_
            refine lv_ldiv hx hb d_15_22_110 (by decide) ?_
            obtain ⟨j211, e212⟩ := q_nm (lx92 / 10 : Int64)
            refine q_tl (v := j211) e212 ?_
            refine lv_lstore (lv' := [(5, .long j211), (8, .long j184), (7, .int lx91), (0, .ref (q 134)), (1, .int x2)]) hx hb d_15_22_111 hl (by decide) rfl (fun ls hl => ?_)
            obtain ⟨a213, e214⟩ := q_nm (lx91 + (-1) : Int32)
            have b215 : q_F (a213.toInt = lx91.toInt + (-1)) := (by rw [← e214]; exact q_addI (y := (-1)) rfl (by decide) (by have t1 : 0 ≤ lx91.toInt + 1 := i94; have _ := q_lo32 (x := lx91); have _ := q_hi32 (x := lx91); omega) (by have t1 : 0 ≤ lx91.toInt + 1 := i94; have _ := q_lo32 (x := lx91); have _ := q_hi32 (x := lx91); omega))
            refine lv_iinc (v := a213) (lv' := [(7, .int a213), (5, .long j211), (8, .long j184), (0, .ref (q 134)), (1, .int x2)]) hx hb d_15_22_113 hl (k := 2) rfl (e214) (by decide) rfl (fun ls hl => ?_)
            refine lv_goto (tgt := 69) hx hb d_15_22_116 (by decide) ?_
            exact ih96 ((a213 : Int32), (j211 : Int64), (f209 : (Nat → Int32))) _ _ _ _ (show (a213.toInt - ((-1))).toNat < (lx91.toInt - ((-1))).toNat from by have t1 : a213.toInt = lx91.toInt + (-1) := b215; have t2 : 0 ≤ lx91.toInt + 1 := i94; have t3 : 0 ≤ lx91.toInt := b183; omega) ⟨(show q_F (0 ≤ a213.toInt + 1) from (show 0 ≤ a213.toInt + 1 from by have t1 : 0 ≤ lx91.toInt := b183; have t2 : a213.toInt = lx91.toInt + (-1) := b215; omega)), (show q_F (a213.toInt ≤ lx39.toInt + 18) from (show a213.toInt ≤ lx39.toInt + 18 from by have t1 : lx91.toInt ≤ lx39.toInt + 18 := i95; have t2 : a213.toInt = lx91.toInt + (-1) := b215; omega)), V, q_lw hl (q_lw1 0 rfl (q_lw1 1 rfl (q_lw1 3 rfl (q_lw1 4 rfl q_lw0)))), hI, hF, hO98, hO99, hO100, hO101, hO102, hO103, ⟨fm108, Nat.lt_of_lt_of_le (show (a213.toInt - ((-1))).toNat < (lx91.toInt - ((-1))).toNat from by have t1 : a213.toInt = lx91.toInt + (-1) := b215; have t2 : 0 ≤ lx91.toInt + 1 := i94; have t3 : 0 ≤ lx91.toInt := b183; omega) (Nat.le_of_lt_succ hf107), (show F_DR_put_L69 x2 x3 x4 t0_0 t0_1 t0_2 t0_3 t0_4 t0_5 t0_6 t0_7 t0_8 t0_9 t0_10 t1_0 t2_0 t3_0 t4_0 t5_0 lx39 lx63 j82 fm108 a213 j211 f209 = (F_DR_put x2 x3 x4 t0_0 t0_1 t0_2 t0_3 t0_4 t0_5 t0_6 t0_7 t0_8 t0_9 t0_10 t1_0 t2_0 t3_0 t4_0 t5_0) from Eq.trans (by have c189x := c189; rw [← e187, ← e185] at c189x; rw [← e214, ← e212, ← e210, ← e206, ← e204, ← e185, F_DR_put_L69.eq_2, if_neg c109, if_neg c189x]) hR104), (show True ∧ S_DR_put_L69 x2 x3 x4 t0_0 t0_1 t0_2 t0_3 t0_4 t0_5 t0_6 t0_7 t0_8 t0_9 t0_10 t1_0 t2_0 t3_0 t4_0 t5_0 lx39 lx63 j82 fm108 a213 j211 f209 from (by rw [← e214, ← e212, ← e210, ← e206, ← e204, ← e185]; have h := hS105; rw [S_DR_put_L69.eq_2] at h; rw [if_neg c109] at h; have c189x := c189; rw [← e187, ← e185] at c189x; rw [if_neg c189x] at h; with_reducible exact h))⟩⟩
      ·
        intro J70
        refine lv_if_ge (tgt := 40) hx hb d_15_22_33 (by decide) (fun c216 => ?_) (fun c216 => ?_)
        ·
          refine lv_iconst (v := 0) hx hb d_15_22_40 (by decide) ?_
          exact J70 ((0 : Int32)) _ _ _ w58 ⟨(show q_F (lx39.toInt ≤ 0) from (show lx39.toInt ≤ 0 from by have t1 : lx39.toInt ≤ 0 := b57; omega)), (show q_F (0 ≤ lx39.toInt + 1) from (show 0 ≤ lx39.toInt + 1 from by have t1 : 0 ≤ lx39.toInt := i47; omega)), V, q_lw hl (q_lw1 0 rfl (q_lw1 1 rfl (q_lw1 2 rfl (q_lw1 3 rfl q_lw0)))), (show F_DR_put_J41 x2 x3 x4 t0_0 t0_1 t0_2 t0_3 t0_4 t0_5 t0_6 t0_7 t0_8 t0_9 t0_10 t1_0 t2_0 t3_0 t4_0 t5_0 lx39 0 = (F_DR_put x2 x3 x4 t0_0 t0_1 t0_2 t0_3 t0_4 t0_5 t0_6 t0_7 t0_8 t0_9 t0_10 t1_0 t2_0 t3_0 t4_0 t5_0) from Eq.trans (by have c216x := c216; rw [← e61] at c216x; rw [F_DR_put_J13.eq_1, if_pos c56, if_pos c216x]) hR49), (show True ∧ S_DR_put_J41 x2 x3 x4 t0_0 t0_1 t0_2 t0_3 t0_4 t0_5 t0_6 t0_7 t0_8 t0_9 t0_10 t1_0 t2_0 t3_0 t4_0 t5_0 lx39 0 from (by have h := hS50; rw [S_DR_put_J13.eq_1] at h; rw [if_pos c56] at h; have c216x := c216; rw [← e61] at c216x; rw [if_pos c216x] at h; with_reducible exact h))⟩
        ·
          refine lv_iconst (v := 1) hx hb d_15_22_36 (by decide) ?_
          refine lv_goto (tgt := 41) hx hb d_15_22_37 (by decide) ?_
          exact J70 ((1 : Int32)) _ _ _ w58 ⟨(show q_F (lx39.toInt ≤ 1) from (show lx39.toInt ≤ 1 from by have t1 : lx39.toInt ≤ 1 := i48; omega)), (show q_F (1 ≤ lx39.toInt + 1) from (show 1 ≤ lx39.toInt + 1 from by have t1 : 0 ≤ lx39.toInt := i47; omega)), V, q_lw hl (q_lw1 0 rfl (q_lw1 1 rfl (q_lw1 2 rfl (q_lw1 3 rfl q_lw0)))), (show F_DR_put_J41 x2 x3 x4 t0_0 t0_1 t0_2 t0_3 t0_4 t0_5 t0_6 t0_7 t0_8 t0_9 t0_10 t1_0 t2_0 t3_0 t4_0 t5_0 lx39 1 = (F_DR_put x2 x3 x4 t0_0 t0_1 t0_2 t0_3 t0_4 t0_5 t0_6 t0_7 t0_8 t0_9 t0_10 t1_0 t2_0 t3_0 t4_0 t5_0) from Eq.trans (by have c216x := c216; rw [← e61] at c216x; rw [F_DR_put_J13.eq_1, if_pos c56, if_neg c216x]) hR49), (show True ∧ S_DR_put_J41 x2 x3 x4 t0_0 t0_1 t0_2 t0_3 t0_4 t0_5 t0_6 t0_7 t0_8 t0_9 t0_10 t1_0 t2_0 t3_0 t4_0 t5_0 lx39 1 from (by have h := hS50; rw [S_DR_put_J13.eq_1] at h; rw [if_pos c56] at h; have c216x := c216; rw [← e61] at c216x; rw [if_neg c216x] at h; with_reducible exact h))⟩
    ·
      exact q_retv C0 V (⟨hI, hF, lx39, t0_1, t0_2, t0_3, t0_4, t0_5, t0_6, t0_7, t0_8, t0_9, t0_10, t1_0, t2_0, t3_0, t4_0, t5_0, hT0, hT1, hT2, hT3, hT4, hT5, (show 0 ≤ t0_4.toInt from (by first | with_reducible exact (q_fe btt0_4).2 | with_reducible exact (q_fe btt0_4).1 | (have t1 : 0 ≤ t0_4.toInt ∧ t0_4.toInt ≤ 1 := btt0_4; omega))), (show 0 ≤ t0_5.toInt from (by first | with_reducible exact (q_fe btt0_5).2 | with_reducible exact (q_fe btt0_5).1 | (have t1 : 0 ≤ t0_5.toInt ∧ t0_5.toInt ≤ 1 := btt0_5; omega))), (show t0_5.toInt ≤ 1 from (by first | with_reducible exact (q_fe btt0_5).2 | with_reducible exact (q_fe btt0_5).1 | (have t1 : 0 ≤ t0_5.toInt ∧ t0_5.toInt ≤ 1 := btt0_5; omega))), (show t0_1.toInt ≤ t0_1.toInt from (by omega)), (show t0_1.toInt ≤ t0_1.toInt from (by omega)), (show t0_4.toInt ≤ t0_4.toInt from (by omega)), (show t0_6.toInt ≤ t0_6.toInt from (by omega)), (show t0_6.toInt ≤ t0_6.toInt from (by omega)), (show t0_7.toInt ≤ t0_7.toInt from (by omega)), (show t0_7.toInt ≤ t0_7.toInt from (by omega)), (show t0_8.toInt ≤ t0_8.toInt from (by omega)), (show t0_8.toInt ≤ t0_8.toInt from (by omega)), (show t0_9.toInt ≤ t0_9.toInt from (by omega)), (show t0_9.toInt ≤ t0_9.toInt from (by omega)), (show (lx39, t0_1, t0_2, t0_3, t0_4, t0_5, t0_6, t0_7, t0_8, t0_9, t0_10, t1_0, t2_0, t3_0, t4_0, t5_0) = (F_DR_put x2 x3 x4 t0_0 t0_1 t0_2 t0_3 t0_4 t0_5 t0_6 t0_7 t0_8 t0_9 t0_10 t1_0 t2_0 t3_0 t4_0 t5_0) from Eq.trans (by rw [F_DR_put_J13.eq_1, if_neg c56]) hR49)⟩) d_15_22_23
  ·
    intro J46
    refine lv_if_eq (tgt := 12) hx hb d_15_22_5 (by decide) (fun c220 => ?_) (fun c220 => ?_)
    ·
      refine lv_iconst (v := 0) hx hb d_15_22_12 (by decide) ?_
      exact J46 ((0 : Int32)) _ _ _ ws ⟨(show q_F (0 ≤ 0) from (show 0 ≤ 0 from by omega)), (show q_F (0 ≤ 1) from (show 0 ≤ 1 from by omega)), V, q_lw hl (q_lw1 0 rfl (q_lw1 1 rfl (q_lw1 2 rfl (q_lw1 3 rfl q_lw0)))), (show F_DR_put_J13 x2 x3 x4 t0_0 t0_1 t0_2 t0_3 t0_4 t0_5 t0_6 t0_7 t0_8 t0_9 t0_10 t1_0 t2_0 t3_0 t4_0 t5_0 0 = (F_DR_put x2 x3 x4 t0_0 t0_1 t0_2 t0_3 t0_4 t0_5 t0_6 t0_7 t0_8 t0_9 t0_10 t1_0 t2_0 t3_0 t4_0 t5_0) from (by have c220x := c220; rw [e38] at c220x; rw [F_DR_put.eq_1, if_pos c220x])), (show True ∧ S_DR_put_J13 x2 x3 x4 t0_0 t0_1 t0_2 t0_3 t0_4 t0_5 t0_6 t0_7 t0_8 t0_9 t0_10 t1_0 t2_0 t3_0 t4_0 t5_0 0 from (by have h := hS; rw [S_DR_put.eq_1] at h; have c220x := c220; rw [e38] at c220x; rw [if_pos c220x] at h; with_reducible exact h))⟩
    ·
      refine lv_iconst (v := 1) hx hb d_15_22_8 (by decide) ?_
      refine lv_goto (tgt := 13) hx hb d_15_22_9 (by decide) ?_
      exact J46 ((1 : Int32)) _ _ _ ws ⟨(show q_F (0 ≤ 1) from (show 0 ≤ 1 from by omega)), (show q_F (1 ≤ 1) from (show 1 ≤ 1 from by omega)), V, q_lw hl (q_lw1 0 rfl (q_lw1 1 rfl (q_lw1 2 rfl (q_lw1 3 rfl q_lw0)))), (show F_DR_put_J13 x2 x3 x4 t0_0 t0_1 t0_2 t0_3 t0_4 t0_5 t0_6 t0_7 t0_8 t0_9 t0_10 t1_0 t2_0 t3_0 t4_0 t5_0 1 = (F_DR_put x2 x3 x4 t0_0 t0_1 t0_2 t0_3 t0_4 t0_5 t0_6 t0_7 t0_8 t0_9 t0_10 t1_0 t2_0 t3_0 t4_0 t5_0) from (by have c220x := c220; rw [e38] at c220x; rw [F_DR_put.eq_1, if_neg c220x])), (show True ∧ S_DR_put_J13 x2 x3 x4 t0_0 t0_1 t0_2 t0_3 t0_4 t0_5 t0_6 t0_7 t0_8 t0_9 t0_10 t1_0 t2_0 t3_0 t4_0 t5_0 1 from (by have h := hS; rw [S_DR_put.eq_1] at h; have c220x := c220; rw [e38] at c220x; rw [if_neg c220x] at h; with_reducible exact h))⟩

