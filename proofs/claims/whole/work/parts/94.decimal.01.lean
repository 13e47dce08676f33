theorem d_15_7_0 : decode prog_15_method_7_code 0 = .ok (.iconst 0, 1) := by decide +kernel
theorem d_15_7_1 : decode prog_15_method_7_code 1 = .ok (.istore_n 1, 1) := by decide +kernel
theorem d_15_7_2 : decode prog_15_method_7_code 2 = .ok (.iload_n 1, 1) := by decide +kernel
theorem d_15_7_3 : decode prog_15_method_7_code 3 = .ok (.iconst 1, 1) := by decide +kernel
theorem d_15_7_4 : decode prog_15_method_7_code 4 = .ok (.iadd, 1) := by decide +kernel
theorem d_15_7_5 : decode prog_15_method_7_code 5 = .ok (.aload_n 0, 1) := by decide +kernel
theorem d_15_7_6 : decode prog_15_method_7_code 6 = .ok (.getfield 45, 3) := by decide +kernel
theorem d_15_7_27 : decode prog_15_method_7_code 27 = .ok (.iconst 0, 1) := by decide +kernel
theorem d_15_7_28 : decode prog_15_method_7_code 28 = .ok (.istore_n 2, 1) := by decide +kernel
theorem d_15_7_29 : decode prog_15_method_7_code 29 = .ok (.iload_n 2, 1) := by decide +kernel
theorem d_15_7_30 : decode prog_15_method_7_code 30 = .ok (.iload_n 1, 1) := by decide +kernel
theorem d_15_7_31 : decode prog_15_method_7_code 31 = .ok (.iadd, 1) := by decide +kernel
theorem d_15_7_32 : decode prog_15_method_7_code 32 = .ok (.aload_n 0, 1) := by decide +kernel
theorem d_15_7_33 : decode prog_15_method_7_code 33 = .ok (.getfield 45, 3) := by decide +kernel
theorem d_15_7_36 : decode prog_15_method_7_code 36 = .ok (.if_icmp .ge 23, 3) := by decide +kernel
theorem d_15_7_59 : decode prog_15_method_7_code 59 = .ok (.aload_n 0, 1) := by decide +kernel
theorem d_15_7_60 : decode prog_15_method_7_code 60 = .ok (.getfield 45, 3) := by decide +kernel
theorem d_15_7_91 : decode prog_15_method_7_code 91 = .ok (.aload_n 0, 1) := by decide +kernel
theorem d_15_7_92 : decode prog_15_method_7_code 92 = .ok (.aload_n 0, 1) := by decide +kernel
theorem d_15_7_93 : decode prog_15_method_7_code 93 = .ok (.getfield 56, 3) := by decide +kernel
theorem d_15_7_96 : decode prog_15_method_7_code 96 = .ok (.ifCond .eq 16, 3) := by decide +kernel
theorem d_15_7_112 : decode prog_15_method_7_code 112 = .ok (.iconst 0, 1) := by decide +kernel
theorem d_15_7_113 : decode prog_15_method_7_code 113 = .ok (.putfield 56, 3) := by decide +kernel
theorem d_15_7_116 : decode prog_15_method_7_code 116 = .ok (.return_, 1) := by decide +kernel
theorem d_15_7_99 : decode prog_15_method_7_code 99 = .ok (.aload_n 0, 1) := by decide +kernel
theorem d_15_7_100 : decode prog_15_method_7_code 100 = .ok (.getfield 26, 3) := by decide +kernel
theorem d_15_7_103 : decode prog_15_method_7_code 103 = .ok (.iconst 0, 1) := by decide +kernel
theorem d_15_7_104 : decode prog_15_method_7_code 104 = .ok (.iaload, 1) := by decide +kernel
theorem d_15_7_105 : decode prog_15_method_7_code 105 = .ok (.ifCond .eq 7, 3) := by decide +kernel
theorem d_15_7_108 : decode prog_15_method_7_code 108 = .ok (.iconst 1, 1) := by decide +kernel
theorem d_15_7_109 : decode prog_15_method_7_code 109 = .ok (.goto 4, 3) := by decide +kernel
theorem d_15_7_63 : decode prog_15_method_7_code 63 = .ok (.ifCond .ne 18, 3) := by decide +kernel
theorem d_15_7_81 : decode prog_15_method_7_code 81 = .ok (.aload_n 0, 1) := by decide +kernel
theorem d_15_7_82 : decode prog_15_method_7_code 82 = .ok (.aload_n 0, 1) := by decide +kernel
theorem d_15_7_83 : decode prog_15_method_7_code 83 = .ok (.getfield 45, 3) := by decide +kernel
theorem d_15_7_86 : decode prog_15_method_7_code 86 = .ok (.iload_n 1, 1) := by decide +kernel
theorem d_15_7_87 : decode prog_15_method_7_code 87 = .ok (.isub, 1) := by decide +kernel
theorem d_15_7_88 : decode prog_15_method_7_code 88 = .ok (.putfield 45, 3) := by decide +kernel
theorem d_15_7_66 : decode prog_15_method_7_code 66 = .ok (.aload_n 0, 1) := by decide +kernel
theorem d_15_7_67 : decode prog_15_method_7_code 67 = .ok (.getfield 26, 3) := by decide +kernel
theorem d_15_7_70 : decode prog_15_method_7_code 70 = .ok (.iconst 0, 1) := by decide +kernel
theorem d_15_7_71 : decode prog_15_method_7_code 71 = .ok (.iconst 0, 1) := by decide +kernel
theorem d_15_7_72 : decode prog_15_method_7_code 72 = .ok (.iastore, 1) := by decide +kernel
theorem d_15_7_73 : decode prog_15_method_7_code 73 = .ok (.aload_n 0, 1) := by decide +kernel
theorem d_15_7_74 : decode prog_15_method_7_code 74 = .ok (.iconst 1, 1) := by decide +kernel
theorem d_15_7_75 : decode prog_15_method_7_code 75 = .ok (.putfield 45, 3) := by decide +kernel
theorem d_15_7_78 : decode prog_15_method_7_code 78 = .ok (.goto 13, 3) := by decide +kernel
theorem d_15_7_39 : decode prog_15_method_7_code 39 = .ok (.aload_n 0, 1) := by decide +kernel
theorem d_15_7_40 : decode prog_15_method_7_code 40 = .ok (.getfield 26, 3) := by decide +kernel
theorem d_15_7_43 : decode prog_15_method_7_code 43 = .ok (.iload_n 2, 1) := by decide +kernel
theorem d_15_7_44 : decode prog_15_method_7_code 44 = .ok (.aload_n 0, 1) := by decide +kernel
theorem d_15_7_45 : decode prog_15_method_7_code 45 = .ok (.getfield 26, 3) := by decide +kernel
theorem d_15_7_48 : decode prog_15_method_7_code 48 = .ok (.iload_n 2, 1) := by decide +kernel
theorem d_15_7_49 : decode prog_15_method_7_code 49 = .ok (.iload_n 1, 1) := by decide +kernel
theorem d_15_7_50 : decode prog_15_method_7_code 50 = .ok (.iadd, 1) := by decide +kernel
theorem d_15_7_51 : decode prog_15_method_7_code 51 = .ok (.iaload, 1) := by decide +kernel
theorem d_15_7_52 : decode prog_15_method_7_code 52 = .ok (.iastore, 1) := by decide +kernel
theorem d_15_7_53 : decode prog_15_method_7_code 53 = .ok (.iinc 2 1, 3) := by decide +kernel
theorem d_15_7_56 : decode prog_15_method_7_code 56 = .ok (.goto (-27), 3) := by decide +kernel
theorem d_15_7_9 : decode prog_15_method_7_code 9 = .ok (.if_icmp .ge 18, 3) := by decide +kernel
theorem d_15_7_12 : decode prog_15_method_7_code 12 = .ok (.aload_n 0, 1) := by decide +kernel
theorem d_15_7_13 : decode prog_15_method_7_code 13 = .ok (.getfield 26, 3) := by decide +kernel
theorem d_15_7_16 : decode prog_15_method_7_code 16 = .ok (.iload_n 1, 1) := by decide +kernel
theorem d_15_7_17 : decode prog_15_method_7_code 17 = .ok (.iaload, 1) := by decide +kernel
theorem d_15_7_18 : decode prog_15_method_7_code 18 = .ok (.ifCond .ne 9, 3) := by decide +kernel
theorem d_15_7_21 : decode prog_15_method_7_code 21 = .ok (.iinc 1 1, 3) := by decide +kernel
theorem d_15_7_24 : decode prog_15_method_7_code 24 = .ok (.goto (-22), 3) := by decide +kernel
def y_DR_trim : MethodName := ⟨"NumberHouseModel$DecimalRows", "trim", "()V"⟩
def F_DR_trim_J91 (K_F_DR_trim_L2 : Int32 → (Int32 × Int32 × Int32 × Int64 × Int32 × Int32 × Int32 × Int32 × Int32 × Int32 × Int32 × (Nat → Int32))) (K_F_DR_trim_L29 : Int32 → (Nat → Int32) → (Int32 × Int32 × Int32 × Int64 × Int32 × Int32 × Int32 × Int32 × Int32 × Int32 × Int32 × (Nat → Int32))) (t0_0 : Int32) (t0_1 : Int32) (t0_2 : Int32) (t0_3 : Int64) (t0_4 : Int32) (t0_5 : Int32) (t0_6 : Int32) (t0_7 : Int32) (t0_8 : Int32) (t0_9 : Int32) (t0_10 : Int32) (t1_0 : (Nat → Int32)) (lx21 : Int32) (lx42 : Int32) (lx43 : (Nat → Int32)) (lx60 : Int32) (lx61 : (Nat → Int32)) : Int32 × Int32 × Int32 × Int64 × Int32 × Int32 × Int32 × Int32 × Int32 × Int32 × Int32 × (Nat → Int32) := if t0_5 = (0 : Int32) then ((t0_0, t0_1, lx60, t0_3, t0_4, (0 : Int32), t0_6, t0_7, t0_8, t0_9, t0_10, lx61)) else (if (lx61 (0 : Int32).toNatClampNeg : Int32) = (0 : Int32) then ((t0_0, t0_1, lx60, t0_3, t0_4, (0 : Int32), t0_6, t0_7, t0_8, t0_9, t0_10, lx61)) else ((t0_0, t0_1, lx60, t0_3, t0_4, (1 : Int32), t0_6, t0_7, t0_8, t0_9, t0_10, lx61)))
def F_DR_trim_L29 (K_F_DR_trim_L2 : Int32 → (Int32 × Int32 × Int32 × Int64 × Int32 × Int32 × Int32 × Int32 × Int32 × Int32 × Int32 × (Nat → Int32))) (t0_0 : Int32) (t0_1 : Int32) (t0_2 : Int32) (t0_3 : Int64) (t0_4 : Int32) (t0_5 : Int32) (t0_6 : Int32) (t0_7 : Int32) (t0_8 : Int32) (t0_9 : Int32) (t0_10 : Int32) (t1_0 : (Nat → Int32)) (lx21 : Int32) : Nat → Int32 → (Nat → Int32) → (Int32 × Int32 × Int32 × Int64 × Int32 × Int32 × Int32 × Int32 × Int32 × Int32 × Int32 × (Nat → Int32))
  | 0, _, _ => default
  | fm + 1, lx42, lx43 => if t0_2 ≤ (lx42 + lx21 : Int32) then (if t0_2 = (0 : Int32) then (F_DR_trim_J91 K_F_DR_trim_L2 (F_DR_trim_L29 K_F_DR_trim_L2 t0_0 t0_1 t0_2 t0_3 t0_4 t0_5 t0_6 t0_7 t0_8 t0_9 t0_10 t1_0 lx21 fm) t0_0 t0_1 t0_2 t0_3 t0_4 t0_5 t0_6 t0_7 t0_8 t0_9 t0_10 t1_0 lx21 lx42 lx43 1 (upd lx43 (0 : Int32).toNatClampNeg 0 : (Nat → Int32))) else (F_DR_trim_J91 K_F_DR_trim_L2 (F_DR_trim_L29 K_F_DR_trim_L2 t0_0 t0_1 t0_2 t0_3 t0_4 t0_5 t0_6 t0_7 t0_8 t0_9 t0_10 t1_0 lx21 fm) t0_0 t0_1 t0_2 t0_3 t0_4 t0_5 t0_6 t0_7 t0_8 t0_9 t0_10 t1_0 lx21 lx42 lx43 (t0_2 - lx21 : Int32) lx43)) else (F_DR_trim_L29 K_F_DR_trim_L2 t0_0 t0_1 t0_2 t0_3 t0_4 t0_5 t0_6 t0_7 t0_8 t0_9 t0_10 t1_0 lx21 fm (lx42 + 1 : Int32) (upd lx43 lx42.toNatClampNeg (lx43 (lx42 + lx21 : Int32).toNatClampNeg : Int32) : (Nat → Int32)))
def F_DR_trim_J27 (K_F_DR_trim_L2 : Int32 → (Int32 × Int32 × Int32 × Int64 × Int32 × Int32 × Int32 × Int32 × Int32 × Int32 × Int32 × (Nat → Int32))) (t0_0 : Int32) (t0_1 : Int32) (t0_2 : Int32) (t0_3 : Int64) (t0_4 : Int32) (t0_5 : Int32) (t0_6 : Int32) (t0_7 : Int32) (t0_8 : Int32) (t0_9 : Int32) (t0_10 : Int32) (t1_0 : (Nat → Int32)) (lx21 : Int32) : Int32 × Int32 × Int32 × Int64 × Int32 × Int32 × Int32 × Int32 × Int32 × Int32 × Int32 × (Nat → Int32) := F_DR_trim_L29 K_F_DR_trim_L2 t0_0 t0_1 t0_2 t0_3 t0_4 t0_5 t0_6 t0_7 t0_8 t0_9 t0_10 t1_0 lx21 ((12200 - (0 : Int32).toInt).toNat + 1) 0 t1_0
def F_DR_trim_L2 (t0_0 : Int32) (t0_1 : Int32) (t0_2 : Int32) (t0_3 : Int64) (t0_4 : Int32) (t0_5 : Int32) (t0_6 : Int32) (t0_7 : Int32) (t0_8 : Int32) (t0_9 : Int32) (t0_10 : Int32) (t1_0 : (Nat → Int32)) : Nat → Int32 → (Int32 × Int32 × Int32 × Int64 × Int32 × Int32 × Int32 × Int32 × Int32 × Int32 × Int32 × (Nat → Int32))
  | 0, _ => default
  | fm + 1, lx21 => if t0_2 ≤ (lx21 + 1 : Int32) then (F_DR_trim_J27 (F_DR_trim_L2 t0_0 t0_1 t0_2 t0_3 t0_4 t0_5 t0_6 t0_7 t0_8 t0_9 t0_10 t1_0 fm) t0_0 t0_1 t0_2 t0_3 t0_4 t0_5 t0_6 t0_7 t0_8 t0_9 t0_10 t1_0 lx21) else (if (t1_0 lx21.toNatClampNeg : Int32) = (0 : Int32) then (F_DR_trim_L2 t0_0 t0_1 t0_2 t0_3 t0_4 t0_5 t0_6 t0_7 t0_8 t0_9 t0_10 t1_0 fm (lx21 + 1 : Int32)) else (F_DR_trim_J27 (F_DR_trim_L2 t0_0 t0_1 t0_2 t0_3 t0_4 t0_5 t0_6 t0_7 t0_8 t0_9 t0_10 t1_0 fm) t0_0 t0_1 t0_2 t0_3 t0_4 t0_5 t0_6 t0_7 t0_8 t0_9 t0_10 t1_0 lx21))
def F_DR_trim (t0_0 : Int32) (t0_1 : Int32) (t0_2 : Int32) (t0_3 : Int64) (t0_4 : Int32) (t0_5 : Int32) (t0_6 : Int32) (t0_7 : Int32) (t0_8 : Int32) (t0_9 : Int32) (t0_10 : Int32) (t1_0 : (Nat → Int32)) : Int32 × Int32 × Int32 × Int64 × Int32 × Int32 × Int32 × Int32 × Int32 × Int32 × Int32 × (Nat → Int32) := F_DR_trim_L2 t0_0 t0_1 t0_2 t0_3 t0_4 t0_5 t0_6 t0_7 t0_8 t0_9 t0_10 t1_0 ((12200 - (0 : Int32).toInt).toNat + 1) 0
def S_DR_trim_J91 (K_S_DR_trim_L2 : Int32 → Prop) (K_S_DR_trim_L29 : Int32 → (Nat → Int32) → Prop) (t0_0 : Int32) (t0_1 : Int32) (t0_2 : Int32) (t0_3 : Int64) (t0_4 : Int32) (t0_5 : Int32) (t0_6 : Int32) (t0_7 : Int32) (t0_8 : Int32) (t0_9 : Int32) (t0_10 : Int32) (t1_0 : (Nat → Int32)) (lx21 : Int32) (lx42 : Int32) (lx43 : (Nat → Int32)) (lx60 : Int32) (lx61 : (Nat → Int32)) : Prop := if t0_5 = (0 : Int32) then (True) else (if (lx61 (0 : Int32).toNatClampNeg : Int32) = (0 : Int32) then (True) else (True))
def S_DR_trim_L29 (K_S_DR_trim_L2 : Int32 → Prop) (t0_0 : Int32) (t0_1 : Int32) (t0_2 : Int32) (t0_3 : Int64) (t0_4 : Int32) (t0_5 : Int32) (t0_6 : Int32) (t0_7 : Int32) (t0_8 : Int32) (t0_9 : Int32) (t0_10 : Int32) (t1_0 : (Nat → Int32)) (lx21 : Int32) : Nat → Int32 → (Nat → Int32) → Prop
  | 0, _, _ => False
  | fm + 1, lx42, lx43 => if t0_2 ≤ (lx42 + lx21 : Int32) then (if t0_2 = (0 : Int32) then (S_DR_trim_J91 K_S_DR_trim_L2 (S_DR_trim_L29 K_S_DR_trim_L2 t0_0 t0_1 t0_2 t0_3 t0_4 t0_5 t0_6 t0_7 t0_8 t0_9 t0_10 t1_0 lx21 fm) t0_0 t0_1 t0_2 t0_3 t0_4 t0_5 t0_6 t0_7 t0_8 t0_9 t0_10 t1_0 lx21 lx42 lx43 1 (upd lx43 (0 : Int32).toNatClampNeg 0 : (Nat → Int32))) else (S_DR_trim_J91 K_S_DR_trim_L2 (S_DR_trim_L29 K_S_DR_trim_L2 t0_0 t0_1 t0_2 t0_3 t0_4 t0_5 t0_6 t0_7 t0_8 t0_9 t0_10 t1_0 lx21 fm) t0_0 t0_1 t0_2 t0_3 t0_4 t0_5 t0_6 t0_7 t0_8 t0_9 t0_10 t1_0 lx21 lx42 lx43 (t0_2 - lx21 : Int32) lx43)) else (((lx42 + lx21 : Int32).toInt ≤ 4399) ∧ (S_DR_trim_L29 K_S_DR_trim_L2 t0_0 t0_1 t0_2 t0_3 t0_4 t0_5 t0_6 t0_7 t0_8 t0_9 t0_10 t1_0 lx21 fm (lx42 + 1 : Int32) (upd lx43 lx42.toNatClampNeg (lx43 (lx42 + lx21 : Int32).toNatClampNeg : Int32) : (Nat → Int32))))
def S_DR_trim_J27 (K_S_DR_trim_L2 : Int32 → Prop) (t0_0 : Int32) (t0_1 : Int32) (t0_2 : Int32) (t0_3 : Int64) (t0_4 : Int32) (t0_5 : Int32) (t0_6 : Int32) (t0_7 : Int32) (t0_8 : Int32) (t0_9 : Int32) (t0_10 : Int32) (t1_0 : (Nat → Int32)) (lx21 : Int32) : Prop := S_DR_trim_L29 K_S_DR_trim_L2 t0_0 t0_1 t0_2 t0_3 t0_4 t0_5 t0_6 t0_7 t0_8 t0_9 t0_10 t1_0 lx21 ((12200 - (0 : Int32).toInt).toNat + 1) 0 t1_0
def S_DR_trim_L2 (t0_0 : Int32) (t0_1 : Int32) (t0_2 : Int32) (t0_3 : Int64) (t0_4 : Int32) (t0_5 : Int32) (t0_6 : Int32) (t0_7 : Int32) (t0_8 : Int32) (t0_9 : Int32) (t0_10 : Int32) (t1_0 : (Nat → Int32)) : Nat → Int32 → Prop
  | 0, _ => False
  | fm + 1, lx21 => if t0_2 ≤ (lx21 + 1 : Int32) then (S_DR_trim_J27 (S_DR_trim_L2 t0_0 t0_1 t0_2 t0_3 t0_4 t0_5 t0_6 t0_7 t0_8 t0_9 t0_10 t1_0 fm) t0_0 t0_1 t0_2 t0_3 t0_4 t0_5 t0_6 t0_7 t0_8 t0_9 t0_10 t1_0 lx21) else ((lx21.toInt ≤ 4399) ∧ (if (t1_0 lx21.toNatClampNeg : Int32) = (0 : Int32) then (S_DR_trim_L2 t0_0 t0_1 t0_2 t0_3 t0_4 t0_5 t0_6 t0_7 t0_8 t0_9 t0_10 t1_0 fm (lx21 + 1 : Int32)) else (S_DR_trim_J27 (S_DR_trim_L2 t0_0 t0_1 t0_2 t0_3 t0_4 t0_5 t0_6 t0_7 t0_8 t0_9 t0_10 t1_0 fm) t0_0 t0_1 t0_2 t0_3 t0_4 t0_5 t0_6 t0_7 t0_8 t0_9 t0_10 t1_0 lx21)))
def S_DR_trim (t0_0 : Int32) (t0_1 : Int32) (t0_2 : Int32) (t0_3 : Int64) (t0_4 : Int32) (t0_5 : Int32) (t0_6 : Int32) (t0_7 : Int32) (t0_8 : Int32) (t0_9 : Int32) (t0_10 : Int32) (t1_0 : (Nat → Int32)) : Prop := S_DR_trim_L2 t0_0 t0_1 t0_2 t0_3 t0_4 t0_5 t0_6 t0_7 t0_8 t0_9 t0_10 t1_0 ((12200 - (0 : Int32).toInt).toNat + 1) 0
set_option maxRecDepth 100000 in
set_option maxHeartbeats 4000000 in
theorem X_DR_trim (l : Launch) (D : va_G) (g : Nat → ClassId) (q : Nat → Nat) (ws : va_W) (hI : q_I (msh g q) q ws) (t0_0 : Int32) (t0_1 : Int32) (t0_2 : Int32) (t0_3 : Int64) (t0_4 : Int32) (t0_5 : Int32) (t0_6 : Int32) (t0_7 : Int32) (t0_8 : Int32) (t0_9 : Int32) (t0_10 : Int32) (hT0 : ws[134]? = (some (q 134, .inr (14, [.int t0_0, .ref (q 135), .int t0_1, .ref (q 136), .ref (q 137), .ref (q 138), .ref (q 139), .ref (q 140), .int t0_2, .long t0_3, .int t0_4, .int t0_5, .ref (q 141), .int t0_6, .ref (q 142), .int t0_7, .ref (q 143), .int t0_8, .ref (q 144), .int t0_9, .int t0_10])) : Option (Nat × va_E))) (t1_0 : (Nat → Int32)) (hT1 : ws[140]? = (some (q 140, .inl (g 0, (4400 : Int32).toNatClampNeg, .inl t1_0)) : Option (Nat × va_E))) (hS : True ∧ S_DR_trim t0_0 t0_1 t0_2 t0_3 t0_4 t0_5 t0_6 t0_7 t0_8 t0_9 t0_10 t1_0) : q_mV l y_DR_trim prog_15_method_7_code 3 1 0 0 D g [.ref (q 134)] ws (fun u => q_I (msh g q) q u ∧ q_un ws u [134, 140] ∧ ∃ (u0_0 : Int32) (u0_1 : Int32) (u0_2 : Int32) (u0_3 : Int64) (u0_4 : Int32) (u0_5 : Int32) (u0_6 : Int32) (u0_7 : Int32) (u0_8 : Int32) (u0_9 : Int32) (u0_10 : Int32) (u1_0 : (Nat → Int32)), u[134]? = (some (q 134, .inr (14, [.int u0_0, .ref (q 135), .int u0_1, .ref (q 136), .ref (q 137), .ref (q 138), .ref (q 139), .ref (q 140), .int u0_2, .long u0_3, .int u0_4, .int u0_5, .ref (q 141), .int u0_6, .ref (q 142), .int u0_7, .ref (q 143), .int u0_8, .ref (q 144), .int u0_9, .int u0_10])) : Option (Nat × va_E)) ∧ u[140]? = (some (q 140, .inl (g 0, (4400 : Int32).toNatClampNeg, .inl u1_0)) : Option (Nat × va_E)) ∧ (0 ≤ u0_5.toInt) ∧ (t0_0.toInt ≤ u0_0.toInt) ∧ (u0_0.toInt ≤ t0_0.toInt) ∧ (t0_1.toInt ≤ u0_1.toInt) ∧ (u0_1.toInt ≤ t0_1.toInt) ∧ (t0_2.toInt ≤ u0_1.toInt + 24400) ∧ (t0_3.toInt ≤ u0_3.toInt) ∧ (u0_3.toInt ≤ t0_3.toInt) ∧ (t0_2.toInt ≤ u0_4.toInt + 24400) ∧ (t0_4.toInt ≤ u0_4.toInt) ∧ (u0_4.toInt ≤ t0_4.toInt) ∧ (t0_2.toInt ≤ u0_5.toInt + 24400) ∧ (u0_5.toInt ≤ t0_5.toInt) ∧ (t0_6.toInt ≤ u0_6.toInt) ∧ (u0_6.toInt ≤ t0_6.toInt) ∧ (t0_7.toInt ≤ u0_7.toInt) ∧ (u0_7.toInt ≤ t0_7.toInt) ∧ (t0_8.toInt ≤ u0_8.toInt) ∧ (u0_8.toInt ≤ t0_8.toInt) ∧ (t0_2.toInt ≤ u0_9.toInt + 24400) ∧ (t0_9.toInt ≤ u0_9.toInt) ∧ (u0_9.toInt ≤ t0_9.toInt) ∧ (t0_10.toInt ≤ u0_10.toInt) ∧ (u0_10.toInt ≤ t0_10.toInt) ∧ (u0_0, u0_1, u0_2, u0_3, u0_4, u0_5, u0_6, u0_7, u0_8, u0_9, u0_10, u1_0) = (F_DR_trim t0_0 t0_1 t0_2 t0_3 t0_4 t0_5 t0_6 t0_7 t0_8 t0_9 t0_10 t1_0)) := by
  intro sz
  refine q_into (by decide) (Nat.le_of_ble_eq_true rfl) ?_
  intro p e s m below meth c ls hsz C0 V hl
  have hx := C0.1
  have hb := C0.2.1
  obtain ⟨yy0_0, yy0_1, yy0_2, yy0_3, yy0_4, yy0_5, yy0_6, yy0_7, yy0_8, yy0_9, yy0_10, hh0, btt0_1, btt0_4, btt0_5, btt0_9⟩ := n_o134 hI
  obtain ⟨rfl, rfl, rfl, rfl, rfl, rfl, rfl, rfl, rfl, rfl, rfl⟩ : t0_0 = yy0_0 ∧ t0_1 = yy0_1 ∧ t0_2 = yy0_2 ∧ t0_3 = yy0_3 ∧ t0_4 = yy0_4 ∧ t0_5 = yy0_5 ∧ t0_6 = yy0_6 ∧ t0_7 = yy0_7 ∧ t0_8 = yy0_8 ∧ t0_9 = yy0_9 ∧ t0_10 = yy0_10 := by have z := Option.some.inj (hT0.symm.trans hh0); simpa using z
  replace btt0_1 : q_F (0 ≤ t0_1.toInt ∧ t0_1.toInt ≤ 4100) := btt0_1
  replace btt0_4 : q_F (0 ≤ t0_4.toInt ∧ t0_4.toInt ≤ 1) := btt0_4
  replace btt0_5 : q_F (0 ≤ t0_5.toInt ∧ t0_5.toInt ≤ 1) := btt0_5
  replace btt0_9 : q_F (0 ≤ t0_9.toInt ∧ t0_9.toInt ≤ 12200) := btt0_9
  have hF : q_un ws ws [134, 140] := q_u0
  have hl : lv_has ls 3 [(0, .ref (q 134))] := hl
  refine lv_iconst (v := 0) hx hb d_15_7_0 (by decide) ?_
  refine lv_istore_n (lv' := [(1, .int 0), (0, .ref (q 134))]) hx hb d_15_7_1 rfl hl (by decide) rfl (fun ls hl => ?_)
  refine q_loop (X := Int32) (fun z H locs ls _ => q_F (0 ≤ z.toInt) ∧ q_F (z.toInt ≤ 12200) ∧ q_Wd D g (va_A ws sz) s ws H locs ∧ lv_has ls 3 [(1, .int z), (0, .ref (q 134))] ∧ (∃ n, (12200 - z.toInt).toNat < n ∧ F_DR_trim_L2 t0_0 t0_1 t0_2 t0_3 t0_4 t0_5 t0_6 t0_7 t0_8 t0_9 t0_10 t1_0 n z = (F_DR_trim t0_0 t0_1 t0_2 t0_3 t0_4 t0_5 t0_6 t0_7 t0_8 t0_9 t0_10 t1_0) ∧ True ∧ S_DR_trim_L2 t0_0 t0_1 t0_2 t0_3 t0_4 t0_5 t0_6 t0_7 t0_8 t0_9 t0_10 t1_0 n z)) (fun z => (12200 - z.toInt).toNat) ?_ ((0 : Int32)) _ _ _ ws ⟨(show q_F (0 ≤ 0) from (show 0 ≤ 0 from by omega)), (show q_F (0 ≤ 12200) from (show 0 ≤ 12200 from by omega)), V, q_lw hl (q_lw1 0 rfl (q_lw1 1 rfl q_lw0)), ⟨((12200 - (0 : Int32).toInt).toNat + 1), Nat.lt_succ_self _, (show F_DR_trim_L2 t0_0 t0_1 t0_2 t0_3 t0_4 t0_5 t0_6 t0_7 t0_8 t0_9 t0_10 t1_0 ((12200 - (0 : Int32).toInt).toNat + 1) 0 = (F_DR_trim t0_0 t0_1 t0_2 t0_3 t0_4 t0_5 t0_6 t0_7 t0_8 t0_9 t0_10 t1_0) from (by rw [F_DR_trim.eq_1])), (show True ∧ S_DR_trim_L2 t0_0 t0_1 t0_2 t0_3 t0_4 t0_5 t0_6 t0_7 t0_8 t0_9 t0_10 t1_0 ((12200 - (0 : Int32).toInt).toNat + 1) 0 from (by have h := hS; rw [S_DR_trim.eq_1] at h; with_reducible exact h))⟩⟩
  rintro lx21 H locs ls _ ⟨i22, i23, V, hl, ⟨fu27, hf28, hR25, hS26⟩⟩ ih24
  obtain ⟨fm29, rfl⟩ : ∃ m, fu27 = m + 1 := ⟨fu27 - 1, by omega⟩
  replace i22 : q_F (0 ≤ lx21.toInt) := i22
  replace i23 : q_F (lx21.toInt ≤ 12200) := i23
  replace hl : lv_has ls 3 [(1, .int lx21), (0, .ref (q 134))] := hl
  refine lv_iload_n hx hb d_15_7_2 rfl (lv_at hl 0 rfl) ?_
  refine lv_iconst (v := 1) hx hb d_15_7_3 (by decide) ?_
  refine lv_iadd hx hb d_15_7_4 ?_
  obtain ⟨a30, e31⟩ := q_nm (lx21 + 1 : Int32)
  refine q_ti (v := a30) e31 ?_
  have b32 : q_F (a30.toInt = lx21.toInt + 1) := (by rw [← e31]; show (lx21 + 1 : Int32).toInt = lx21.toInt + 1; exact q_addI (x := lx21.toInt) (y := 1) rfl (by decide) (by have t1 : 0 ≤ lx21.toInt := i22; have t2 : lx21.toInt ≤ 12200 := i23; omega) (by have t1 : 0 ≤ lx21.toInt := i22; have t2 : lx21.toInt ≤ 12200 := i23; omega))
  refine lv_aload_n hx hb d_15_7_5 rfl (lv_at hl 1 rfl) ?_
  refine q_get (ci := 14) (j := 8) (v := .int t0_2) C0 V i_DR rfl rfl hT0 (by decide) w_2011 rfl d_15_7_6 ?_
  refine q_join (X := Unit) (fun z H locs ls _ => q_Wd D g (va_A ws sz) s ws H locs ∧ lv_has ls 3 [(1, .int lx21), (0, .ref (q 134))] ∧ F_DR_trim_J27 (F_DR_trim_L2 t0_0 t0_1 t0_2 t0_3 t0_4 t0_5 t0_6 t0_7 t0_8 t0_9 t0_10 t1_0 fm29) t0_0 t0_1 t0_2 t0_3 t0_4 t0_5 t0_6 t0_7 t0_8 t0_9 t0_10 t1_0 lx21 = (F_DR_trim t0_0 t0_1 t0_2 t0_3 t0_4 t0_5 t0_6 t0_7 t0_8 t0_9 t0_10 t1_0) ∧ True ∧ S_DR_trim_J27 (S_DR_trim_L2 t0_0 t0_1 t0_2 t0_3 t0_4 t0_5 t0_6 t0_7 t0_8 t0_9 t0_10 t1_0 fm29) t0_0 t0_1 t0_2 t0_3 t0_4 t0_5 t0_6 t0_7 t0_8 t0_9 t0_10 t1_0 lx21) (fun z => []) 27 0 0 ?_ ?_
  ·
    rintro _ H locs ls _ ⟨V, hl, hR36, hS37⟩
    replace hl : lv_has ls 3 [(1, .int lx21), (0, .ref (q 134))] := hl
    refine lv_iconst (v := 0) hx hb d_15_7_27 (by decide) ?_
    refine lv_istore_n (lv' := [(2, .int 0), (1, .int lx21), (0, .ref (q 134))]) hx hb d_15_7_28 rfl hl (by decide) rfl (fun ls hl => ?_)
    refine q_loop (X := Int32 × (Nat → Int32)) (fun z H locs ls w47 => q_F (0 ≤ z.1.toInt) ∧ q_F (z.1.toInt ≤ 12200) ∧ q_Wd D g (va_A ws sz) s w47 H locs ∧ lv_has ls 3 [(2, .int z.1), (1, .int lx21), (0, .ref (q 134))] ∧ q_I (msh g q) q w47 ∧ q_un ws w47 [134, 140] ∧ w47[134]? = (some (q 134, .inr (14, [.int t0_0, .ref (q 135), .int t0_1, .ref (q 136), .ref (q 137), .ref (q 138), .ref (q 139), .ref (q 140), .int t0_2, .long t0_3, .int t0_4, .int t0_5, .ref (q 141), .int t0_6, .ref (q 142), .int t0_7, .ref (q 143), .int t0_8, .ref (q 144), .int t0_9, .int t0_10])) : Option (Nat × va_E)) ∧ w47[140]? = (some (q 140, .inl (g 0, (4400 : Int32).toNatClampNeg, .inl z.2)) : Option (Nat × va_E)) ∧ (∃ n, (12200 - z.1.toInt).toNat < n ∧ F_DR_trim_L29 (F_DR_trim_L2 t0_0 t0_1 t0_2 t0_3 t0_4 t0_5 t0_6 t0_7 t0_8 t0_9 t0_10 t1_0 fm29) t0_0 t0_1 t0_2 t0_3 t0_4 t0_5 t0_6 t0_7 t0_8 t0_9 t0_10 t1_0 lx21 n z.1 z.2 = (F_DR_trim t0_0 t0_1 t0_2 t0_3 t0_4 t0_5 t0_6 t0_7 t0_8 t0_9 t0_10 t1_0) ∧ True ∧ S_DR_trim_L29 (S_DR_trim_L2 t0_0 t0_1 t0_2 t0_3 t0_4 t0_5 t0_6 t0_7 t0_8 t0_9 t0_10 t1_0 fm29) t0_0 t0_1 t0_2 t0_3 t0_4 t0_5 t0_6 t0_7 t0_8 t0_9 t0_10 t1_0 lx21 n z.1 z.2)) (fun z => (12200 - z.1.toInt).toNat) ?_ ((0 : Int32), (t1_0 : (Nat → Int32))) _ _ _ ws ⟨(show q_F (0 ≤ 0) from (show 0 ≤ 0 from by omega)), (show q_F (0 ≤ 12200) from (show 0 ≤ 12200 from by omega)), V, q_lw hl (q_lw1 0 rfl (q_lw1 1 rfl (q_lw1 2 rfl q_lw0))), hI, hF, hT0, hT1, ⟨((12200 - (0 : Int32).toInt).toNat + 1), Nat.lt_succ_self _, (show F_DR_trim_L29 (F_DR_trim_L2 t0_0 t0_1 t0_2 t0_3 t0_4 t0_5 t0_6 t0_7 t0_8 t0_9 t0_10 t1_0 fm29) t0_0 t0_1 t0_2 t0_3 t0_4 t0_5 t0_6 t0_7 t0_8 t0_9 t0_10 t1_0 lx21 ((12200 - (0 : Int32).toInt).toNat + 1) 0 t1_0 = (F_DR_trim t0_0 t0_1 t0_2 t0_3 t0_4 t0_5 t0_6 t0_7 t0_8 t0_9 t0_10 t1_0) from Eq.trans (by rw [F_DR_trim_J27.eq_1]) hR36), (show True ∧ S_DR_trim_L29 (S_DR_trim_L2 t0_0 t0_1 t0_2 t0_3 t0_4 t0_5 t0_6 t0_7 t0_8 t0_9 t0_10 t1_0 fm29) t0_0 t0_1 t0_2 t0_3 t0_4 t0_5 t0_6 t0_7 t0_8 t0_9 t0_10 t1_0 lx21 ((12200 - (0 : Int32).toInt).toNat + 1) 0 t1_0 from (by have h := hS37; rw [S_DR_trim_J27.eq_1] at h; with_reducible exact h))⟩⟩
    rintro ⟨lx42, lx43⟩ H locs ls w47 ⟨i44, i45, V, hl, hI, hF, hO48, hO49, ⟨fu52, hf53, hR50, hS51⟩⟩ ih46
    obtain ⟨fm54, rfl⟩ : ∃ m, fu52 = m + 1 := ⟨fu52 - 1, by omega⟩
    replace i44 : q_F (0 ≤ lx42.toInt) := i44
    replace i45 : q_F (lx42.toInt ≤ 12200) := i45
    replace hl : lv_has ls 3 [(2, .int lx42), (1, .int lx21), (0, .ref (q 134))] := hl
    replace hO48 : w47[134]? = (some (q 134, .inr (14, [.int t0_0, .ref (q 135), .int t0_1, .ref (q 136), .ref (q 137), .ref (q 138), .ref (q 139), .ref (q 140), .int t0_2, .long t0_3, .int t0_4, .int t0_5, .ref (q 141), .int t0_6, .ref (q 142), .int t0_7, .ref (q 143), .int t0_8, .ref (q 144), .int t0_9, .int t0_10])) : Option (Nat × va_E)) := hO48
    replace hO49 : w47[140]? = (some (q 140, .inl (g 0, (4400 : Int32).toNatClampNeg, .inl lx43)) : Option (Nat × va_E)) := hO49
    refine lv_iload_n hx hb d_15_7_29 rfl (lv_at hl 0 rfl) ?_
    refine lv_iload_n hx hb d_15_7_30 rfl (lv_at hl 1 rfl) ?_
    refine lv_iadd hx hb d_15_7_31 ?_
    obtain ⟨a55, e56⟩ := q_nm (lx42 + lx21 : Int32)
    refine q_ti (v := a55) e56 ?_
    have b57 : q_F (a55.toInt = lx42.toInt + lx21.toInt) := (by rw [← e56]; show (lx42 + lx21 : Int32).toInt = lx42.toInt + lx21.toInt; exact q_addI (x := lx42.toInt) (y := lx21.toInt) rfl rfl (by have t1 : 0 ≤ lx21.toInt := i22; have t2 : 0 ≤ lx42.toInt := i44; have t3 : lx21.toInt ≤ 12200 := i23; have t4 : lx42.toInt ≤ 12200 := i45; omega) (by have t1 : 0 ≤ lx21.toInt := i22; have t2 : 0 ≤ lx42.toInt := i44; have t3 : lx21.toInt ≤ 12200 := i23; have t4 : lx42.toInt ≤ 12200 := i45; omega))
    refine lv_aload_n hx hb d_15_7_32 rfl (lv_at hl 2 rfl) ?_
    refine q_get (ci := 14) (j := 8) (v := .int t0_2) C0 V i_DR rfl rfl hO48 (by decide) w_2011 rfl d_15_7_33 ?_
    refine lv_icmp_ge (tgt := 59) hx hb d_15_7_36 (by decide) (fun c58 => ?_) (fun c58 => ?_)
    ·
      have b59 : q_F (t0_2.toInt ≤ a55.toInt) := (q_leI c58)
      refine lv_aload_n hx hb d_15_7_59 rfl (lv_at hl 2 rfl) ?_
      refine q_get (ci := 14) (j := 8) (v := .int t0_2) C0 V i_DR rfl rfl hO48 (by decide) w_2011 rfl d_15_7_60 ?_
      refine q_join (X := Int32 × (Nat → Int32)) (fun z H locs ls w65 => q_Wd D g (va_A ws sz) s w65 H locs ∧ lv_has ls 3 [(0, .ref (q 134))] ∧ q_I (msh g q) q w65 ∧ q_un ws w65 [134, 140] ∧ w65[134]? = (some (q 134, .inr (14, [.int t0_0, .ref (q 135), .int t0_1, .ref (q 136), .ref (q 137), .ref (q 138), .ref (q 139), .ref (q 140), .int z.1, .long t0_3, .int t0_4, .int t0_5, .ref (q 141), .int t0_6, .ref (q 142), .int t0_7, .ref (q 143), .int t0_8, .ref (q 144), .int t0_9, .int t0_10])) : Option (Nat × va_E)) ∧ w65[140]? = (some (q 140, .inl (g 0, (4400 : Int32).toNatClampNeg, .inl z.2)) : Option (Nat × va_E)) ∧ F_DR_trim_J91 (F_DR_trim_L2 t0_0 t0_1 t0_2 t0_3 t0_4 t0_5 t0_6 t0_7 t0_8 t0_9 t0_10 t1_0 fm29) (F_DR_trim_L29 (F_DR_trim_L2 t0_0 t0_1 t0_2 t0_3 t0_4 t0_5 t0_6 t0_7 t0_8 t0_9 t0_10 t1_0 fm29) t0_0 t0_1 t0_2 t0_3 t0_4 t0_5 t0_6 t0_7 t0_8 t0_9 t0_10 t1_0 lx21 fm54) t0_0 t0_1 t0_2 t0_3 t0_4 t0_5 t0_6 t0_7 t0_8 t0_9 t0_10 t1_0 lx21 lx42 lx43 z.1 z.2 = (F_DR_trim t0_0 t0_1 t0_2 t0_3 t0_4 t0_5 t0_6 t0_7 t0_8 t0_9 t0_10 t1_0) ∧ True ∧ S_DR_trim_J91 (S_DR_trim_L2 t0_0 t0_1 t0_2 t0_3 t0_4 t0_5 t0_6 t0_7 t0_8 t0_9 t0_10 t1_0 fm29) (S_DR_trim_L29 (S_DR_trim_L2 t0_0 t0_1 t0_2 t0_3 t0_4 t0_5 t0_6 t0_7 t0_8 t0_9 t0_10 t1_0 fm29) t0_0 t0_1 t0_2 t0_3 t0_4 t0_5 t0_6 t0_7 t0_8 t0_9 t0_10 t1_0 lx21 fm54) t0_0 t0_1 t0_2 t0_3 t0_4 t0_5 t0_6 t0_7 t0_8 t0_9 t0_10 t1_0 lx21 lx42 lx43 z.1 z.2) (fun z => []) 91 0 0 ?_ ?_
      ·
        rintro ⟨lx60, lx61⟩ H locs ls w65 ⟨V, hl, hI, hF, hO62, hA63, hR66, hS67⟩
        replace hl : lv_has ls 3 [(0, .ref (q 134))] := hl
        replace hO62 : w65[134]? = (some (q 134, .inr (14, [.int t0_0, .ref (q 135), .int t0_1, .ref (q 136), .ref (q 137), .ref (q 138), .ref (q 139), .ref (q 140), .int lx60, .long t0_3, .int t0_4, .int t0_5, .ref (q 141), .int t0_6, .ref (q 142), .int t0_7, .ref (q 143), .int t0_8, .ref (q 144), .int t0_9, .int t0_10])) : Option (Nat × va_E)) := hO62
        replace hA63 : w65[140]? = (some (q 140, .inl (g 0, (4400 : Int32).toNatClampNeg, .inl lx61)) : Option (Nat × va_E)) := hA63
        refine lv_aload_n hx hb d_15_7_91 rfl (lv_at hl 0 rfl) ?_
        refine lv_aload_n hx hb d_15_7_92 rfl (lv_at hl 0 rfl) ?_
        refine q_get (ci := 14) (j := 11) (v := .int t0_5) C0 V i_DR rfl rfl hO62 (by decide) w_2014 rfl d_15_7_93 ?_
        refine lv_if_eq (tgt := 112) hx hb d_15_7_96 (by decide) (fun c71 => ?_) (fun c71 => ?_)
        ·
          have b72 : q_F (t0_5.toInt = 0) := (q_eqI c71)
          refine lv_iconst (v := 0) hx hb d_15_7_112 (by decide) ?_
          refine q_put (ci := 14) (j := 11) (v := .int 0) (ty := .boolean) C0 V i_DR o_DR n_DR rfl rfl hO62 (by decide) w_2014 rfl rfl rfl rfl (Nat.le_of_ble_eq_true rfl) d_15_7_113 (fun H locs w73 hu74 hO62 V => ?_)
          replace hO62 : w73[134]? = (some (q 134, .inr (14, [.int t0_0, .ref (q 135), .int t0_1, .ref (q 136), .ref (q 137), .ref (q 138), .ref (q 139), .ref (q 140), .int lx60, .long t0_3, .int t0_4, .int 0, .ref (q 141), .int t0_6, .ref (q 142), .int t0_7, .ref (q 143), .int t0_8, .ref (q 144), .int t0_9, .int t0_10])) : Option (Nat × va_E)) := hO62
          replace hI := n_p134 hI hu74 hO62 ⟨(by have t1 : 0 ≤ t0_1.toInt ∧ t0_1.toInt ≤ 4100 := btt0_1; omega), (by have t1 : 0 ≤ t0_1.toInt ∧ t0_1.toInt ≤ 4100 := btt0_1; omega)⟩ ⟨(by have t1 : 0 ≤ t0_4.toInt ∧ t0_4.toInt ≤ 1 := btt0_4; omega), (by have t1 : 0 ≤ t0_4.toInt ∧ t0_4.toInt ≤ 1 := btt0_4; omega)⟩ ⟨(by have z9 : (0 : Int32).toInt = 0 := rfl; omega), (by have z9 : (0 : Int32).toInt = 0 := rfl; omega)⟩ ⟨(by have t1 : 0 ≤ t0_9.toInt ∧ t0_9.toInt ≤ 12200 := btt0_9; omega), (by have t1 : 0 ≤ t0_9.toInt ∧ t0_9.toInt ≤ 12200 := btt0_9; omega)⟩
          replace hA63 := (hu74 _ (by decide)).trans hA63
          replace hF := q_us hF hu74 (by simp)
          exact q_retv C0 V (⟨hI, hF, t0_0, t0_1, lx60, t0_3, t0_4, 0, t0_6, t0_7, t0_8, t0_9, t0_10, lx61, hO62, hA63, (show 0 ≤ (0 : Int32).toInt from (by have z17 : (0 : Int32).toInt = 0 := rfl; omega)), (show t0_0.toInt ≤ t0_0.toInt from (by have z17 : (0 : Int32).toInt = 0 := rfl; omega)), (show t0_0.toInt ≤ t0_0.toInt from (by have z17 : (0 : Int32).toInt = 0 := rfl; omega)), (show t0_1.toInt ≤ t0_1.toInt from (by have z17 : (0 : Int32).toInt = 0 := rfl; omega)), (show t0_1.toInt ≤ t0_1.toInt from (by have z17 : (0 : Int32).toInt = 0 := rfl; omega)), (show t0_2.toInt ≤ t0_1.toInt + 24400 from (by have z17 : (0 : Int32).toInt = 0 := rfl; have t1 : 0 ≤ t0_1.toInt ∧ t0_1.toInt ≤ 4100 := btt0_1; have t2 : lx21.toInt ≤ 12200 := i23; have t3 : lx42.toInt ≤ 12200 := i45; have t4 : a55.toInt = lx42.toInt + lx21.toInt := b57; have t5 : t0_2.toInt ≤ a55.toInt := b59; omega)), (show t0_3.toInt ≤ t0_3.toInt from (by have z17 : (0 : Int32).toInt = 0 := rfl; omega)), (show t0_3.toInt ≤ t0_3.toInt from (by have z17 : (0 : Int32).toInt = 0 := rfl; omega)), (show t0_2.toInt ≤ t0_4.toInt + 24400 from (by have z17 : (0 : Int32).toInt = 0 := rfl; have t1 : 0 ≤ t0_4.toInt ∧ t0_4.toInt ≤ 1 := btt0_4; have t2 : lx21.toInt ≤ 12200 := i23; have t3 : lx42.toInt ≤ 12200 := i45; have t4 : a55.toInt = lx42.toInt + lx21.toInt := b57; have t5 : t0_2.toInt ≤ a55.toInt := b59; omega)), (show t0_4.toInt ≤ t0_4.toInt from (by have z17 : (0 : Int32).toInt = 0 := rfl; omega)), (show t0_4.toInt ≤ t0_4.toInt from (by have z17 : (0 : Int32).toInt = 0 := rfl; omega)), (show t0_2.toInt ≤ (0 : Int32).toInt + 24400 from (by have z17 : (0 : Int32).toInt = 0 := rfl; have t1 : lx21.toInt ≤ 12200 := i23; have t2 : lx42.toInt ≤ 12200 := i45; have t3 : a55.toInt = lx42.toInt + lx21.toInt := b57; have t4 : t0_2.toInt ≤ a55.toInt := b59; omega)), (show (0 : Int32).toInt ≤ t0_5.toInt from (by have z17 : (0 : Int32).toInt = 0 := rfl; have t1 : 0 ≤ t0_5.toInt ∧ t0_5.toInt ≤ 1 := btt0_5; omega)), (show t0_6.toInt ≤ t0_6.toInt from (by have z17 : (0 : Int32).toInt = 0 := rfl; omega)), (show t0_6.toInt ≤ t0_6.toInt from (by have z17 : (0 : Int32).toInt = 0 := rfl; omega)), (show t0_7.toInt ≤ t0_7.toInt from (by have z17 : (0 : Int32).toInt = 0 := rfl; omega)), (show t0_7.toInt ≤ t0_7.toInt from (by have z17 : (0 : Int32).toInt = 0 := rfl; omega)), (show t0_8.toInt ≤ t0_8.toInt from (by have z17 : (0 : Int32).toInt = 0 := rfl; omega)), (show t0_8.toInt ≤ t0_8.toInt from (by have z17 : (0 : Int32).toInt = 0 := rfl; omega)), (show t0_2.toInt ≤ t0_9.toInt + 24400 from (by have z17 : (0 : Int32).toInt = 0 := rfl; have t1 : 0 ≤ t0_9.toInt ∧ t0_9.toInt ≤ 12200 := btt0_9; have t2 : lx21.toInt ≤ 12200 := i23; have t3 : lx42.toInt ≤ 12200 := i45; have t4 : a55.toInt = lx42.toInt + lx21.toInt := b57; have t5 : t0_2.toInt ≤ a55.toInt := b59; omega)), (show t0_9.toInt ≤ t0_9.toInt from (by have z17 : (0 : Int32).toInt = 0 := rfl; omega)), (show t0_9.toInt ≤ t0_9.toInt from (by have z17 : (0 : Int32).toInt = 0 := rfl; omega)), (show t0_10.toInt ≤ t0_10.toInt from (by have z17 : (0 : Int32).toInt = 0 := rfl; omega)), (show t0_10.toInt ≤ t0_10.toInt from (by have z17 : (0 : Int32).toInt = 0 := rfl; omega)), (show (t0_0, t0_1, lx60, t0_3, t0_4, (0 : Int32), t0_6, t0_7, t0_8, t0_9, t0_10, lx61) = (F_DR_trim t0_0 t0_1 t0_2 t0_3 t0_4 t0_5 t0_6 t0_7 t0_8 t0_9 t0_10 t1_0) from Eq.trans (by rw [F_DR_trim_J91.eq_1, if_pos c71]) hR66)⟩) d_15_7_116
        ·
          have b75 : q_F (t0_5.toInt ≠ 0) := (q_neI c71)
          refine lv_aload_n hx hb d_15_7_99 rfl (lv_at hl 0 rfl) ?_
          refine q_get (ci := 14) (j := 7) (v := .ref (q 140)) C0 V i_DR rfl rfl hO62 (by decide) w_2010 rfl d_15_7_100 ?_
          refine lv_iconst (v := 0) hx hb d_15_7_103 (by decide) ?_
          refine q_iald C0 V hA63 (q_ix (x := 0) (by decide) (by omega) (by have e9 : (((4400 : Int32).toNatClampNeg : Nat) : Int) = 4400 := (by decide); omega)) d_15_7_104 ?_
          obtain ⟨a76, e77⟩ := q_nm (lx61 (0 : Int32).toNatClampNeg : Int32)
          refine q_ti (v := a76) e77 ?_
          refine lv_if_eq (tgt := 112) hx hb d_15_7_105 (by decide) (fun c78 => ?_) (fun c78 => ?_)
          ·
            have b79 : q_F (a76.toInt = 0) := (q_eqI c78)
            refine lv_iconst (v := 0) hx hb d_15_7_112 (by decide) ?_
            refine q_put (ci := 14) (j := 11) (v := .int 0) (ty := .boolean) C0 V i_DR o_DR n_DR rfl rfl hO62 (by decide) w_2014 rfl rfl rfl rfl (Nat.le_of_ble_eq_true rfl) d_15_7_113 (fun H locs w80 hu81 hO62 V => ?_)
            replace hO62 : w80[134]? = (some (q 134, .inr (14, [.int t0_0, .ref (q 135), .int t0_1, .ref (q 136), .ref (q 137), .ref (q 138), .ref (q 139), .ref (q 140), .int lx60, .long t0_3, .int t0_4, .int 0, .ref (q 141), .int t0_6, .ref (q 142), .int t0_7, .ref (q 143), .int t0_8, .ref (q 144), .int t0_9, .int t0_10])) : Option (Nat × va_E)) := hO62
            replace hI := n_p134 hI hu81 hO62 ⟨(by have t1 : 0 ≤ t0_1.toInt ∧ t0_1.toInt ≤ 4100 := btt0_1; omega), (by have t1 : 0 ≤ t0_1.toInt ∧ t0_1.toInt ≤ 4100 := btt0_1; omega)⟩ ⟨(by have t1 : 0 ≤ t0_4.toInt ∧ t0_4.toInt ≤ 1 := btt0_4; omega), (by have t1 : 0 ≤ t0_4.toInt ∧ t0_4.toInt ≤ 1 := btt0_4; omega)⟩ ⟨(by have z9 : (0 : Int32).toInt = 0 := rfl; omega), (by have z9 : (0 : Int32).toInt = 0 := rfl; omega)⟩ ⟨(by have t1 : 0 ≤ t0_9.toInt ∧ t0_9.toInt ≤ 12200 := btt0_9; omega), (by have t1 : 0 ≤ t0_9.toInt ∧ t0_9.toInt ≤ 12200 := btt0_9; omega)⟩
            replace hA63 := (hu81 _ (by decide)).trans hA63
            replace hF := q_us hF hu81 (by simp)
            exact q_retv C0 V (⟨hI, hF, t0_0, t0_1, lx60, t0_3, t0_4, 0, t0_6, t0_7, t0_8, t0_9, t0_10, lx61, hO62, hA63, (show 0 ≤ (0 : Int32).toInt from (by have z17 : (0 : Int32).toInt = 0 := rfl; omega)), (show t0_0.toInt ≤ t0_0.toInt from (by have z17 : (0 : Int32).toInt = 0 := rfl; omega)), (show t0_0.toInt ≤ t0_0.toInt from (by have z17 : (0 : Int32).toInt = 0 := rfl; omega)), (show t0_1.toInt ≤ t0_1.toInt from (by have z17 : (0 : Int32).toInt = 0 := rfl; omega)), (show t0_1.toInt ≤ t0_1.toInt from (by have z17 : (0 : Int32).toInt = 0 := rfl; omega)), (show t0_2.toInt ≤ t0_1.toInt + 24400 from (by have z17 : (0 : Int32).toInt = 0 := rfl; have t1 : 0 ≤ t0_1.toInt ∧ t0_1.toInt ≤ 4100 := btt0_1; have t2 : lx21.toInt ≤ 12200 := i23; have t3 : lx42.toInt ≤ 12200 := i45; have t4 : a55.toInt = lx42.toInt + lx21.toInt := b57; have t5 : t0_2.toInt ≤ a55.toInt := b59; omega)), (show t0_3.toInt ≤ t0_3.toInt from (by have z17 : (0 : Int32).toInt = 0 := rfl; omega)), (show t0_3.toInt ≤ t0_3.toInt from (by have z17 : (0 : Int32).toInt = 0 := rfl; omega)), (show t0_2.toInt ≤ t0_4.toInt + 24400 from (by have z17 : (0 : Int32).toInt = 0 := rfl; have t1 : 0 ≤ t0_4.toInt ∧ t0_4.toInt ≤ 1 := btt0_4; have t2 : lx21.toInt ≤ 12200 := i23; have t3 : lx42.toInt ≤ 12200 := i45; have t4 : a55.toInt = lx42.toInt + lx21.toInt := b57; have t5 : t0_2.toInt ≤ a55.toInt := b59; omega)), (show t0_4.toInt ≤ t0_4.toInt from (by have z17 : (0 : Int32).toInt = 0 := rfl; omega)), (show t0_4.toInt ≤ t0_4.toInt from (by have z17 : (0 : Int32).toInt = 0 := rfl; omega)), (show t0_2.toInt ≤ (0 : Int32).toInt + 24400 from (by have z17 : (0 : Int32).toInt = 0 := rfl; have t1 : lx21.toInt ≤ 12200 := i23; have t2 : lx42.toInt ≤ 12200 := i45; have t3 : a55.toInt = lx42.toInt + lx21.toInt := b57; have t4 : t0_2.toInt ≤ a55.toInt := b59; omega)), (show (0 : Int32).toInt ≤ t0_5.toInt from (by have z17 : (0 : Int32).toInt = 0 := rfl; have t1 : 0 ≤ t0_5.toInt ∧ t0_5.toInt ≤ 1 := btt0_5; omega)), (show t0_6.toInt ≤ t0_6.toInt from (by have z17 : (0 : Int32).toInt = 0 := rfl; omega)), (show t0_6.toInt ≤ t0_6.toInt from (by have z17 : (0 : Int32).toInt = 0 := rfl; omega)), (show t0_7.toInt ≤ t0_7.toInt from (by have z17 : (0 : Int32).toInt = 0 := rfl; omega)), (show t0_7.toInt ≤ t0_7.toInt from (by have z17 : (0 : Int32).toInt = 0 := rfl; omega)), (show t0_8.toInt ≤ t0_8.toInt from (by have z17 : (0 : Int32).toInt = 0 := rfl; omega)), (show t0_8.toInt ≤ t0_8.toInt from (by have z17 : (0 : Int32).toInt = 0 := rfl; omega)), (show t0_2.toInt ≤ t0_9.toInt + 24400 from (by have z17 : (0 : Int32).toInt = 0 := rfl; have t1 : 0 ≤ t0_9.toInt ∧ t0_9.toInt ≤ 12200 := btt0_9; have t2 : lx21.toInt ≤ 12200 := i23; have t3 : lx42.toInt ≤ 12200 := i45; have t4 : a55.toInt = lx42.toInt + lx21.toInt := b57; have t5 : t0_2.toInt ≤ a55.toInt := b59; omega)), (show t0_9.toInt ≤ t0_9.toInt from (by have z17 : (0 : Int32).toInt = 0 := rfl; omega)), (show t0_9.toInt ≤ t0_9.toInt from (by have z17 : (0 : Int32).toInt = 0 := rfl; omega)), (show t0_10.toInt ≤ t0_10.toInt from (by have z17 : (0 : Int32).toInt = 0 := rfl; omega)), (show t0_10.toInt ≤ t0_10.toInt from (by have z17 : (0 : Int32).toInt = 0 := rfl; omega)), (show (t0_0, t0_1, lx60, t0_3, t0_4, (0 : Int32), t0_6, t0_7, t0_8, t0_9, t0_10, lx61) = (F_DR_trim t0_0 t0_1 t0_2 t0_3 t0_4 t0_5 t0_6 t0_7 t0_8 t0_9 t0_10 t1_0) from Eq.trans (by have c78x := c78; rw [← e77] at c78x; rw [F_DR_trim_J91.eq_1, if_neg c71, if_pos c78x]) hR66)⟩) d_15_7_116
          ·
            have b82 : q_F (a76.toInt ≠ 0) := (q_neI c78)
            refine lv_iconst (v := 1) hx hb d_15_7_108 (by decide) ?_
            refine lv_goto (tgt := 113) hx hb d_15_7_109 (by decide) ?_
            refine q_put (ci := 14) (j := 11) (v := .int 1) (ty := .boolean) C0 V i_DR o_DR n_DR rfl rfl hO62 (by decide) w_2014 rfl rfl rfl rfl (Nat.le_of_ble_eq_true rfl) d_15_7_113 (fun H locs w83 hu84 hO62 V => ?_)
            replace hO62 : w83[134]? = (some (q 134, .inr (14, [.int t0_0, .ref (q 135), .int t0_1, .ref (q 136), .ref (q 137), .ref (q 138), .ref (q 139), .ref (q 140), .int lx60, .long t0_3, .int t0_4, .int 1, .ref (q 141), .int t0_6, .ref (q 142), .int t0_7, .ref (q 143), .int t0_8, .ref (q 144), .int t0_9, .int t0_10])) : Option (Nat × va_E)) := hO62
            replace hI := n_p134 hI hu84 hO62 ⟨(by have t1 : 0 ≤ t0_1.toInt ∧ t0_1.toInt ≤ 4100 := btt0_1; omega), (by have t1 : 0 ≤ t0_1.toInt ∧ t0_1.toInt ≤ 4100 := btt0_1; omega)⟩ ⟨(by have t1 : 0 ≤ t0_4.toInt ∧ t0_4.toInt ≤ 1 := btt0_4; omega), (by have t1 : 0 ≤ t0_4.toInt ∧ t0_4.toInt ≤ 1 := btt0_4; omega)⟩ ⟨(by have z9 : (1 : Int32).toInt = 1 := rfl; omega), (by have z9 : (1 : Int32).toInt = 1 := rfl; omega)⟩ ⟨(by have t1 : 0 ≤ t0_9.toInt ∧ t0_9.toInt ≤ 12200 := btt0_9; omega), (by have t1 : 0 ≤ t0_9.toInt ∧ t0_9.toInt ≤ 12200 := btt0_9; omega)⟩
            replace hA63 := (hu84 _ (by decide)).trans hA63
            replace hF := q_us hF hu84 (by simp)
            exact q_retv C0 V (⟨hI, hF, t0_0, t0_1, lx60, t0_3, t0_4, 1, t0_6, t0_7, t0_8, t0_9, t0_10, lx61, hO62, hA63, (show 0 ≤ (1 : Int32).toInt from (by have z17 : (1 : Int32).toInt = 1 := rfl; omega)), (show t0_0.toInt ≤ t0_0.toInt from (by have z17 : (1 : Int32).toInt = 1 := rfl; omega)), (show t0_0.toInt ≤ t0_0.toInt from (by have z17 : (1 : Int32).toInt = 1 := rfl; omega)), (show t0_1.toInt ≤ t0_1.toInt from (by have z17 : (1 : Int32).toInt = 1 := rfl; omega)), (show t0_1.toInt ≤ t0_1.toInt from (by have z17 : (1 : Int32).toInt = 1 := rfl; omega)), (show t0_2.toInt ≤ t0_1.toInt + 24400 from (by have z17 : (1 : Int32).toInt = 1 := rfl; have t1 : 0 ≤ t0_1.toInt ∧ t0_1.toInt ≤ 4100 := btt0_1; have t2 : lx21.toInt ≤ 12200 := i23; have t3 : lx42.toInt ≤ 12200 := i45; have t4 : a55.toInt = lx42.toInt + lx21.toInt := b57; have t5 : t0_2.toInt ≤ a55.toInt := b59; omega)), (show t0_3.toInt ≤ t0_3.toInt from (by have z17 : (1 : Int32).toInt = 1 := rfl; omega)), (show t0_3.toInt ≤ t0_3.toInt from (by have z17 : (1 : Int32).toInt = 1 := rfl; omega)), (show t0_2.toInt ≤ t0_4.toInt + 24400 from (by have z17 : (1 : Int32).toInt = 1 := rfl; have t1 : 0 ≤ t0_4.toInt ∧ t0_4.toInt ≤ 1 := btt0_4; have t2 : lx21.toInt ≤ 12200 := i23; have t3 : lx42.toInt ≤ 12200 := i45; have t4 : a55.toInt = lx42.toInt + lx21.toInt := b57; have t5 : t0_2.toInt ≤ a55.toInt := b59; omega)), (show t0_4.toInt ≤ t0_4.toInt from (by have z17 : (1 : Int32).toInt = 1 := rfl; omega)), (show t0_4.toInt ≤ t0_4.toInt from (by have z17 : (1 : Int32).toInt = 1 := rfl; omega)), (show t0_2.toInt ≤ (1 : Int32).toInt + 24400 from (by have z17 : (1 : Int32).toInt = 1 := rfl; have t1 : lx21.toInt ≤ 12200 := i23; have t2 : lx42.toInt ≤ 12200 := i45; have t3 : a55.toInt = lx42.toInt + lx21.toInt := b57; have t4 : t0_2.toInt ≤ a55.toInt := b59; omega)), (show (1 : Int32).toInt ≤ t0_5.toInt from (by have z17 : (1 : Int32).toInt = 1 := rfl; have t1 : 0 ≤ t0_5.toInt ∧ t0_5.toInt ≤ 1 := btt0_5; have t2 : t0_5.toInt ≠ 0 := b75; omega)), (show t0_6.toInt ≤ t0_6.toInt from (by have z17 : (1 : Int32).toInt = 1 := rfl; omega)), (show t0_6.toInt ≤ t0_6.toInt from (by have z17 : (1 : Int32).toInt = 1 := rfl; omega)), (show t0_7.toInt ≤ t0_7.toInt from (by have z17 : (1 : Int32).toInt = 1 := rfl; omega)), (show t0_7.toInt ≤ t0_7.toInt from (by have z17 : (1 : Int32).toInt = 1 := rfl; omega)), (show t0_8.toInt ≤ t0_8.toInt from (by have z17 : (1 : Int32).toInt = 1 := rfl; omega)), (show t0_8.toInt ≤ t0_8.toInt from (by have z17 : (1 : Int32).toInt = 1 := rfl; omega)), (show t0_2.toInt ≤ t0_9.toInt + 24400 from (by have z17 : (1 : Int32).toInt = 1 := rfl; have t1 : 0 ≤ t0_9.toInt ∧ t0_9.toInt ≤ 12200 := btt0_9; have t2 : lx21.toInt ≤ 12200 := i23; have t3 : lx42.toInt ≤ 12200 := i45; have t4 : a55.toInt = lx42.toInt + lx21.toInt := b57; have t5 : t0_2.toInt ≤ a55.toInt := b59; omega)), (show t0_9.toInt ≤ t0_9.toInt from (by have z17 : (1 : Int32).toInt = 1 := rfl; omega)), (show t0_9.toInt ≤ t0_9.toInt from (by have z17 : (1 : Int32).toInt = 1 := rfl; omega)), (show t0_10.toInt ≤ t0_10.toInt from (by have z17 : (1 : Int32).toInt = 1 := rfl; omega)), (show t0_10.toInt ≤ t0_10.toInt from (by have z17 : (1 : Int32).toInt = 1 := rfl; omega)), (show (t0_0, t0_1, lx60, t0_3, t0_4, (1 : Int32), t0_6, t0_7, t0_8, t0_9, t0_10, lx61) = (F_DR_trim t0_0 t0_1 t0_2 t0_3 t0_4 t0_5 t0_6 t0_7 t0_8 t0_9 t0_10 t1_0) from Eq.trans (by have c78x := c78; rw [← e77] at c78x; rw [F_DR_trim_J91.eq_1, if_neg c71, if_neg c78x]) hR66)⟩) d_15_7_116
      ·
        intro J64
        refine lv_if_ne (tgt := 81) hx hb d_15_7_63 (by decide) (fun c85 => ?_) (fun c85 => ?_)
        ·
          have b86 : q_F (t0_2.toInt ≠ 0) := (q_neI c85)
          refine lv_aload_n hx hb d_15_7_81 rfl (lv_at hl 2 rfl) ?_
          refine lv_aload_n hx hb d_15_7_82 rfl (lv_at hl 2 rfl) ?_
          refine q_get (ci := 14) (j := 8) (v := .int t0_2) C0 V i_DR rfl rfl hO48 (by decide) w_2011 rfl d_15_7_83 ?_
          refine lv_iload_n hx hb d_15_7_86 rfl (lv_at hl 1 rfl) ?_
          refine lv_isub hx hb d_15_7_87 ?_
          obtain ⟨a87, e88⟩ := q_nm (t0_2 - lx21 : Int32)
          refine q_ti (v := a87) e88 ?_
          refine q_put (ci := 14) (j := 8) (v := .int a87) (ty := .int) C0 V i_DR o_DR n_DR rfl rfl hO48 (by decide) w_2011 rfl rfl rfl rfl (Nat.le_of_ble_eq_true rfl) d_15_7_88 (fun H locs w89 hu90 hO48 V => ?_)
          replace hO48 : w89[134]? = (some (q 134, .inr (14, [.int t0_0, .ref (q 135), .int t0_1, .ref (q 136), .ref (q 137), .ref (q 138), .ref (q 139), .ref (q 140), .int a87, .long t0_3, .int t0_4, .int t0_5, .ref (q 141), .int t0_6, .ref (q 142), .int t0_7, .ref (q 143), .int t0_8, .ref (q 144), .int t0_9, .int t0_10])) : Option (Nat × va_E)) := hO48
          replace hI := n_p134 hI hu90 hO48 ⟨(by have t1 : 0 ≤ t0_1.toInt ∧ t0_1.toInt ≤ 4100 := btt0_1; omega), (by have t1 : 0 ≤ t0_1.toInt ∧ t0_1.toInt ≤ 4100 := btt0_1; omega)⟩ ⟨(by have t1 : 0 ≤ t0_4.toInt ∧ t0_4.toInt ≤ 1 := btt0_4; omega), (by have t1 : 0 ≤ t0_4.toInt ∧ t0_4.toInt ≤ 1 := btt0_4; omega)⟩ ⟨(by have t1 : 0 ≤ t0_5.toInt ∧ t0_5.toInt ≤ 1 := btt0_5; omega), (by have t1 : 0 ≤ t0_5.toInt ∧ t0_5.toInt ≤ 1 := btt0_5; omega)⟩ ⟨(by have t1 : 0 ≤ t0_9.toInt ∧ t0_9.toInt ≤ 12200 := btt0_9; omega), (by have t1 : 0 ≤ t0_9.toInt ∧ t0_9.toInt ≤ 12200 := btt0_9; omega)⟩
          replace hO49 := (hu90 _ (by decide)).trans hO49
          replace hF := q_us hF hu90 (by simp)
          exact J64 ((a87 : Int32), (lx43 : (Nat → Int32))) _ _ _ _ ⟨V, q_lw hl (q_lw1 2 rfl q_lw0), hI, hF, hO48, hO49, (show F_DR_trim_J91 (F_DR_trim_L2 t0_0 t0_1 t0_2 t0_3 t0_4 t0_5 t0_6 t0_7 t0_8 t0_9 t0_10 t1_0 fm29) (F_DR_trim_L29 (F_DR_trim_L2 t0_0 t0_1 t0_2 t0_3 t0_4 t0_5 t0_6 t0_7 t0_8 t0_9 t0_10 t1_0 fm29) t0_0 t0_1 t0_2 t0_3 t0_4 t0_5 t0_6 t0_7 t0_8 t0_9 t0_10 t1_0 lx21 fm54) t0_0 t0_1 t0_2 t0_3 t0_4 t0_5 t0_6 t0_7 t0_8 t0_9 t0_10 t1_0 lx21 lx42 lx43 a87 lx43 = (F_DR_trim t0_0 t0_1 t0_2 t0_3 t0_4 t0_5 t0_6 t0_7 t0_8 t0_9 t0_10 t1_0) from Eq.trans (by have c58x := c58; rw [← e56] at c58x; rw [← e88, F_DR_trim_L29.eq_2, if_pos c58x, if_neg c85]) hR50), (show True ∧ S_DR_trim_J91 (S_DR_trim_L2 t0_0 t0_1 t0_2 t0_3 t0_4 t0_5 t0_6 t0_7 t0_8 t0_9 t0_10 t1_0 fm29) (S_DR_trim_L29 (S_DR_trim_L2 t0_0 t0_1 t0_2 t0_3 t0_4 t0_5 t0_6 t0_7 t0_8 t0_9 t0_10 t1_0 fm29) t0_0 t0_1 t0_2 t0_3 t0_4 t0_5 t0_6 t0_7 t0_8 t0_9 t0_10 t1_0 lx21 fm54) t0_0 t0_1 t0_2 t0_3 t0_4 t0_5 t0_6 t0_7 t0_8 t0_9 t0_10 t1_0 lx21 lx42 lx43 a87 lx43 from (by rw [← e88]; have h := hS51; rw [S_DR_trim_L29.eq_2] at h; have c58x := c58; rw [← e56] at c58x; rw [if_pos c58x] at h; rw [if_neg c85] at h; with_reducible exact h))⟩
        ·
          have b91 : q_F (t0_2.toInt = 0) := (q_eqI c85)
          refine lv_aload_n hx hb d_15_7_66 rfl (lv_at hl 2 rfl) ?_
          refine q_get (ci := 14) (j := 7) (v := .ref (q 140)) C0 V i_DR rfl rfl hO48 (by decide) w_2010 rfl d_15_7_67 ?_
          refine lv_iconst (v := 0) hx hb d_15_7_70 (by decide) ?_
          refine lv_iconst (v := 0) hx hb d_15_7_71 (by decide) ?_
          refine q_iast C0 V hO49 (q_ix (x := 0) (by decide) (by omega) (by have e9 : (((4400 : Int32).toNatClampNeg : Nat) : Int) = 4400 := (by decide); omega)) d_15_7_72 (fun H locs w92 hu93 hO49 V => ?_)
          replace hI := n_ai' hI (n_r140 g q).1 hu93 hO49 (q_updB (fun _ => s_bnd) s_bnd)
          replace hO48 := (hu93 _ (by decide)).trans hO48
          replace hF := q_us hF hu93 (by simp)
          obtain ⟨f94, e95⟩ := q_nm (upd lx43 (0 : Int32).toNatClampNeg 0 : (Nat → Int32))
          rw [e95] at hO49
          refine lv_aload_n hx hb d_15_7_73 rfl (lv_at hl 2 rfl) ?_
          refine lv_iconst (v := 1) hx hb d_15_7_74 (by decide) ?_
          refine q_put (ci := 14) (j := 8) (v := .int 1) (ty := .int) C0 V i_DR o_DR n_DR rfl rfl hO48 (by decide) w_2011 rfl rfl rfl rfl (Nat.le_of_ble_eq_true rfl) d_15_7_75 (fun H locs w96 hu97 hO48 V => ?_)
          replace hO48 : w96[134]? = (some (q 134, .inr (14, [.int t0_0, .ref (q 135), .int t0_1, .ref (q 136), .ref (q 137), .ref (q 138), .ref (q 139), .ref (q 140), .int 1, .long t0_3, .int t0_4, .int t0_5, .ref (q 141), .int t0_6, .ref (q 142), .int t0_7, .ref (q 143), .int t0_8, .ref (q 144), .int t0_9, .int t0_10])) : Option (Nat × va_E)) := hO48
          replace hI := n_p134 hI hu97 hO48 ⟨(by have t1 : 0 ≤ t0_1.toInt ∧ t0_1.toInt ≤ 4100 := btt0_1; omega), (by have t1 : 0 ≤ t0_1.toInt ∧ t0_1.toInt ≤ 4100 := btt0_1; omega)⟩ ⟨(by have t1 : 0 ≤ t0_4.toInt ∧ t0_4.toInt ≤ 1 := btt0_4; omega), (by have t1 : 0 ≤ t0_4.toInt ∧ t0_4.toInt ≤ 1 := btt0_4; omega)⟩ ⟨(by have t1 : 0 ≤ t0_5.toInt ∧ t0_5.toInt ≤ 1 := btt0_5; omega), (by have t1 : 0 ≤ t0_5.toInt ∧ t0_5.toInt ≤ 1 := btt0_5; omega)⟩ ⟨(by have t1 : 0 ≤ t0_9.toInt ∧ t0_9.toInt ≤ 12200 := btt0_9; omega), (by have t1 : 0 ≤ t0_9.toInt ∧ t0_9.toInt ≤ 12200 := btt0_9; omega)⟩
          replace hO49 := (hu97 _ (by decide)).trans hO49
          replace hF := q_us hF hu97 (by simp)
          refine lv_goto (tgt := 91) hx hb d_15_7_78 (by decide) ?_
          exact J64 ((1 : Int32), (f94 : (Nat → Int32))) _ _ _ _ ⟨V, q_lw hl (q_lw1 2 rfl q_lw0), hI, hF, hO48, hO49, (show F_DR_trim_J91 (F_DR_trim_L2 t0_0 t0_1 t0_2 t0_3 t0_4 t0_5 t0_6 t0_7 t0_8 t0_9 t0_10 t1_0 fm29) (F_DR_trim_L29 (F_DR_trim_L2 t0_0 t0_1 t0_2 t0_3 t0_4 t0_5 t0_6 t0_7 t0_8 t0_9 t0_10 t1_0 fm29) t0_0 t0_1 t0_2 t0_3 t0_4 t0_5 t0_6 t0_7 t0_8 t0_9 t0_10 t1_0 lx21 fm54) t0_0 t0_1 t0_2 t0_3 t0_4 t0_5 t0_6 t0_7 t0_8 t0_9 t0_10 t1_0 lx21 lx42 lx43 1 f94 = (F_DR_trim t0_0 t0_1 t0_2 t0_3 t0_4 t0_5 t0_6 t0_7 t0_8 t0_9 t0_10 t1_0) from Eq.trans (by have c58x := c58; rw [← e56] at c58x; rw [← e95, F_DR_trim_L29.eq_2, if_pos c58x, if_pos c85]) hR50), (show True ∧ S_DR_trim_J91 (S_DR_trim_L2 t0_0 t0_1 t0_2 t0_3 t0_4 t0_5 t0_6 t0_7 t0_8 t0_9 t0_10 t1_0 fm29) (S_DR_trim_L29 (S_DR_trim_L2 t0_0 t0_1 t0_2 t0_3 t0_4 t0_5 t0_6 t0_7 t0_8 t0_9 t0_10 t1_0 fm29) t0_0 t0_1 t0_2 t0_3 t0_4 t0_5 t0_6 t0_7 t0_8 t0_9 t0_10 t1_0 lx21 fm54) t0_0 t0_1 t0_2 t0_3 t0_4 t0_5 t0_6 t0_7 t0_8 t0_9 t0_10 t1_0 lx21 lx42 lx43 1 f94 from (by rw [← e95]; have h := hS51; rw [S_DR_trim_L29.eq_2] at h; have c58x := c58; rw [← e56] at c58x; rw [if_pos c58x] at h; rw [if_pos c85] at h; with_reducible exact h))⟩
    ·
      have b98 : q_F (a55.toInt < t0_2.toInt) := (q_nleI c58)
      refine lv_aload_n hx hb d_15_7_39 rfl (lv_at hl 2 rfl) ?_
      refine q_get (ci := 14) (j := 7) (v := .ref (q 140)) C0 V i_DR rfl rfl hO48 (by decide) w_2010 rfl d_15_7_40 ?_
      refine lv_iload_n hx hb d_15_7_43 rfl (lv_at hl 0 rfl) ?_
      refine lv_aload_n hx hb d_15_7_44 rfl (lv_at hl 2 rfl) ?_
      refine q_get (ci := 14) (j := 7) (v := .ref (q 140)) C0 V i_DR rfl rfl hO48 (by decide) w_2010 rfl d_15_7_45 ?_
      refine lv_iload_n hx hb d_15_7_48 rfl (lv_at hl 0 rfl) ?_
      refine lv_iload_n hx hb d_15_7_49 rfl (lv_at hl 1 rfl) ?_
      refine lv_iadd hx hb d_15_7_50 ?_
      obtain ⟨a99, e100⟩ := q_nm (lx42 + lx21 : Int32)
      refine q_ti (v := a99) e100 ?_
      have b101 : q_F (a99.toInt = lx42.toInt + lx21.toInt) := (by rw [← e100]; show (lx42 + lx21 : Int32).toInt = lx42.toInt + lx21.toInt; exact q_addI (x := lx42.toInt) (y := lx21.toInt) rfl rfl (by have t1 : 0 ≤ lx21.toInt := i22; have t2 : 0 ≤ lx42.toInt := i44; have t3 : lx21.toInt ≤ 12200 := i23; have t4 : lx42.toInt ≤ 12200 := i45; omega) (by have t1 : 0 ≤ lx21.toInt := i22; have t2 : 0 ≤ lx42.toInt := i44; have t3 : lx21.toInt ≤ 12200 := i23; have t4 : lx42.toInt ≤ 12200 := i45; omega))
      have ob102 : q_F (a99.toInt ≤ 4399) := (by rw [← e100]; have h := hS51; rw [S_DR_trim_L29.eq_2] at h; have c58x := c58; rw [← e56] at c58x; rw [if_neg c58x] at h; exact h.2.1)
      refine q_iald C0 V hO49 (q_ix (x := a99.toInt) rfl (by have t1 : 0 ≤ lx21.toInt := i22; have t2 : 0 ≤ lx42.toInt := i44; have t3 : a99.toInt = lx42.toInt + lx21.toInt := b101; omega) (by have t1 : 0 ≤ lx21.toInt := i22; have t2 : 0 ≤ lx42.toInt := i44; have t3 : a99.toInt = lx42.toInt + lx21.toInt := b101; have t4 : a99.toInt ≤ 4399 := ob102; have e9 : (((4400 : Int32).toNatClampNeg : Nat) : Int) = 4400 := (by decide); omega)) d_15_7_51 ?_
      obtain ⟨a103, e104⟩ := q_nm (lx43 a99.toNatClampNeg : Int32)
      refine q_ti (v := a103) e104 ?_
      refine q_iast C0 V hO49 (q_ix (x := lx42.toInt) rfl (by have t1 : 0 ≤ lx42.toInt := i44; omega) (by have t1 : 0 ≤ lx42.toInt := i44; have t2 : 0 ≤ lx21.toInt := i22; have t3 : a99.toInt = lx42.toInt + lx21.toInt := b101; have t4 : a99.toInt ≤ 4399 := ob102; have e9 : (((4400 : Int32).toNatClampNeg : Nat) : Int) = 4400 := (by decide); omega)) d_15_7_52 (fun H locs w105 hu106 hO49 V => ?_)
      replace hI := n_ai' hI (n_r140 g q).1 hu106 hO49 (q_updB (fun _ => s_bnd) s_bnd)
      replace hO48 := (hu106 _ (by decide)).trans hO48
      replace hF := q_us hF hu106 (by simp)
      obtain ⟨f107, e108⟩ := q_nm (upd lx43 lx42.toNatClampNeg a103 : (Nat → Int32))
      rw [e108] at hO49
      obtain ⟨a109, e110⟩ := q_nm (lx42 + 1 : Int32)
      have b111 : q_F (a109.toInt = lx42.toInt + 1) := (by rw [← e110]; exact q_addI (y := 1) rfl (by decide) (by have t1 : 0 ≤ lx42.toInt := i44; have t2 : lx42.toInt ≤ 12200 := i45; omega) (by have t1 : 0 ≤ lx42.toInt := i44; have t2 : lx42.toInt ≤ 12200 := i45; omega))
      refine lv_iinc (v := a109) (lv' := [(2, .int a109), (1, .int lx21), (0, .ref (q 134))]) hx hb d_15_7_53 hl (k := 0) rfl (e110) (by decide) rfl (fun ls hl => ?_)
      refine lv_goto (tgt := 29) hx hb d_15_7_56 (by decide) ?_
      exact ih46 ((a109 : Int32), (f107 : (Nat → Int32))) _ _ _ _ (show (12200 - a109.toInt).toNat < (12200 - lx42.toInt).toNat from by have t1 : a109.toInt = lx42.toInt + 1 := b111; have t2 : lx42.toInt ≤ 12200 := i45; have t3 : 0 ≤ lx21.toInt := i22; have t4 : a99.toInt = lx42.toInt + lx21.toInt := b101; have t5 : a99.toInt ≤ 4399 := ob102; omega) ⟨(show q_F (0 ≤ a109.toInt) from (show 0 ≤ a109.toInt from by have t1 : 0 ≤ lx42.toInt := i44; have t2 : a109.toInt = lx42.toInt + 1 := b111; omega)), (show q_F (a109.toInt ≤ 12200) from (show a109.toInt ≤ 12200 from by have t1 : 0 ≤ lx21.toInt := i22; have t2 : a99.toInt = lx42.toInt + lx21.toInt := b101; have t3 : a99.toInt ≤ 4399 := ob102; have t4 : a109.toInt = lx42.toInt + 1 := b111; omega)), V, q_lw hl (q_lw1 0 rfl (q_lw1 1 rfl (q_lw1 2 rfl q_lw0))), hI, hF, hO48, hO49, ⟨fm54, Nat.lt_of_lt_of_le (show (12200 - a109.toInt).toNat < (12200 - lx42.toInt).toNat from by have t1 : a109.toInt = lx42.toInt + 1 := b111; have t2 : lx42.toInt ≤ 12200 := i45; have t3 : 0 ≤ lx21.toInt := i22; have t4 : a99.toInt = lx42.toInt + lx21.toInt := b101; have t5 : a99.toInt ≤ 4399 := ob102; omega) (Nat.le_of_lt_succ hf53), (show F_DR_trim_L29 (F_DR_trim_L2 t0_0 t0_1 t0_2 t0_3 t0_4 t0_5 t0_6 t0_7 t0_8 t0_9 t0_10 t1_0 fm29) t0_0 t0_1 t0_2 t0_3 t0_4 t0_5 t0_6 t0_7 t0_8 t0_9 t0_10 t1_0 lx21 fm54 a109 f107 = (F_DR_trim t0_0 t0_1 t0_2 t0_3 t0_4 t0_5 t0_6 t0_7 t0_8 t0_9 t0_10 t1_0) from Eq.trans (by have c58x := c58; rw [← e56] at c58x; rw [← e110, ← e108, ← e104, ← e100, F_DR_trim_L29.eq_2, if_neg c58x]) hR50), (show True ∧ S_DR_trim_L29 (S_DR_trim_L2 t0_0 t0_1 t0_2 t0_3 t0_4 t0_5 t0_6 t0_7 t0_8 t0_9 t0_10 t1_0 fm29) t0_0 t0_1 t0_2 t0_3 t0_4 t0_5 t0_6 t0_7 t0_8 t0_9 t0_10 t1_0 lx21 fm54 a109 f107 from (by rw [← e110, ← e108, ← e104, ← e100]; have h := hS51; rw [S_DR_trim_L29.eq_2] at h; have c58x := c58; rw [← e56] at c58x; rw [if_neg c58x] at h; replace h := q_s2 h; with_reducible exact h))⟩⟩
  ·
    intro J35
    refine lv_icmp_ge (tgt := 27) hx hb d_15_7_9 (by decide) (fun c112 => ?_) (fun c112 => ?_)
    ·
      have b113 : q_F (t0_2.toInt ≤ a30.toInt) := (q_leI c112)
      exact J35 (()) _ _ _ ws ⟨V, q_lw hl (q_lw1 0 rfl (q_lw1 1 rfl q_lw0)), (show F_DR_trim_J27 (F_DR_trim_L2 t0_0 t0_1 t0_2 t0_3 t0_4 t0_5 t0_6 t0_7 t0_8 t0_9 t0_10 t1_0 fm29) t0_0 t0_1 t0_2 t0_3 t0_4 t0_5 t0_6 t0_7 t0_8 t0_9 t0_10 t1_0 lx21 = (F_DR_trim t0_0 t0_1 t0_2 t0_3 t0_4 t0_5 t0_6 t0_7 t0_8 t0_9 t0_10 t1_0) from Eq.trans (by have c112x := c112; rw [← e31] at c112x; rw [F_DR_trim_L2.eq_2, if_pos c112x]) hR25), (show True ∧ S_DR_trim_J27 (S_DR_trim_L2 t0_0 t0_1 t0_2 t0_3 t0_4 t0_5 t0_6 t0_7 t0_8 t0_9 t0_10 t1_0 fm29) t0_0 t0_1 t0_2 t0_3 t0_4 t0_5 t0_6 t0_7 t0_8 t0_9 t0_10 t1_0 lx21 from (by have h := hS26; rw [S_DR_trim_L2.eq_2] at h; have c112x := c112; rw [← e31] at c112x; rw [if_pos c112x] at h; with_reducible exact h))⟩
    ·
      have b114 : q_F (a30.toInt < t0_2.toInt) := (q_nleI c112)
      refine lv_aload_n hx hb d_15_7_12 rfl (lv_at hl 1 rfl) ?_
      refine q_get (ci := 14) (j := 7) (v := .ref (q 140)) C0 V i_DR rfl rfl hT0 (by decide) w_2010 rfl d_15_7_13 ?_
      refine lv_iload_n hx hb d_15_7_16 rfl (lv_at hl 0 rfl) ?_
      have ob115 : q_F (lx21.toInt ≤ 4399) := (by have h := hS26; rw [S_DR_trim_L2.eq_2] at h; have c112x := c112; rw [← e31] at c112x; rw [if_neg c112x] at h; exact h.2.1)
      refine q_iald C0 V hT1 (q_ix (x := lx21.toInt) rfl (by have t1 : 0 ≤ lx21.toInt := i22; omega) (by have t1 : 0 ≤ lx21.toInt := i22; have t2 : lx21.toInt ≤ 4399 := ob115; have e9 : (((4400 : Int32).toNatClampNeg : Nat) : Int) = 4400 := (by decide); omega)) d_15_7_17 ?_
      obtain ⟨a116, e117⟩ := q_nm (t1_0 lx21.toNatClampNeg : Int32)
      refine q_ti (v := a116) e117 ?_
      refine lv_if_ne (tgt := 27) hx hb d_15_7_18 (by decide) (fun c118 => ?_) (fun c118 => ?_)
      ·
        have b119 : q_F (a116.toInt ≠ 0) := (q_neI c118)
        exact J35 (()) _ _ _ ws ⟨V, q_lw hl (q_lw1 0 rfl (q_lw1 1 rfl q_lw0)), (show F_DR_trim_J27 (F_DR_trim_L2 t0_0 t0_1 t0_2 t0_3 t0_4 t0_5 t0_6 t0_7 t0_8 t0_9 t0_10 t1_0 fm29) t0_0 t0_1 t0_2 t0_3 t0_4 t0_5 t0_6 t0_7 t0_8 t0_9 t0_10 t1_0 lx21 = (F_DR_trim t0_0 t0_1 t0_2 t0_3 t0_4 t0_5 t0_6 t0_7 t0_8 t0_9 t0_10 t1_0) from Eq.trans (by have c112x := c112; rw [← e31] at c112x; have c118x := c118; rw [← e117] at c118x; rw [F_DR_trim_L2.eq_2, if_neg c112x, if_neg c118x]) hR25), (show True ∧ S_DR_trim_J27 (S_DR_trim_L2 t0_0 t0_1 t0_2 t0_3 t0_4 t0_5 t0_6 t0_7 t0_8 t0_9 t0_10 t1_0 fm29) t0_0 t0_1 t0_2 t0_3 t0_4 t0_5 t0_6 t0_7 t0_8 t0_9 t0_10 t1_0 lx21 from (by have h := hS26; rw [S_DR_trim_L2.eq_2] at h; have c112x := c112; rw [← e31] at c112x; rw [if_neg c112x] at h; replace h := q_s2 h; have c118x := c118; rw [← e117] at c118x; rw [if_neg c118x] at h; with_reducible exact h))⟩
      ·
        have b120 : q_F (a116.toInt = 0) := (q_eqI c118)
        obtain ⟨a121, e122⟩ := q_nm (lx21 + 1 : Int32)
        have b123 : q_F (a121.toInt = lx21.toInt + 1) := (by rw [← e122]; exact q_addI (y := 1) rfl (by decide) (by have t1 : 0 ≤ lx21.toInt := i22; have t2 : lx21.toInt ≤ 12200 := i23; omega) (by have t1 : 0 ≤ lx21.toInt := i22; have t2 : lx21.toInt ≤ 12200 := i23; omega))
        refine lv_iinc (v := a121) (lv' := [(1, .int a121), (0, .ref (q 134))]) hx hb d_15_7_21 hl (k := 0) rfl (e122) (by decide) rfl (fun ls hl => ?_)
        refine lv_goto (tgt := 2) hx hb d_15_7_24 (by decide) ?_
        exact ih24 ((a121 : Int32)) _ _ _ ws (show (12200 - a121.toInt).toNat < (12200 - lx21.toInt).toNat from by have t1 : a121.toInt = lx21.toInt + 1 := b123; have t2 : lx21.toInt ≤ 12200 := i23; have t3 : lx21.toInt ≤ 4399 := ob115; omega) ⟨(show q_F (0 ≤ a121.toInt) from (show 0 ≤ a121.toInt from by have t1 : 0 ≤ lx21.toInt := i22; have t2 : a121.toInt = lx21.toInt + 1 := b123; omega)), (show q_F (a121.toInt ≤ 12200) from (show a121.toInt ≤ 12200 from by have t1 : lx21.toInt ≤ 4399 := ob115; have t2 : a121.toInt = lx21.toInt + 1 := b123; omega)), V, q_lw hl (q_lw1 0 rfl (q_lw1 1 rfl q_lw0)), ⟨fm29, Nat.lt_of_lt_of_le (show (12200 - a121.toInt).toNat < (12200 - lx21.toInt).toNat from by have t1 : a121.toInt = lx21.toInt + 1 := b123; have t2 : lx21.toInt ≤ 12200 := i23; have t3 : lx21.toInt ≤ 4399 := ob115; omega) (Nat.le_of_lt_succ hf28), (show F_DR_trim_L2 t0_0 t0_1 t0_2 t0_3 t0_4 t0_5 t0_6 t0_7 t0_8 t0_9 t0_10 t1_0 fm29 a121 = (F_DR_trim t0_0 t0_1 t0_2 t0_3 t0_4 t0_5 t0_6 t0_7 t0_8 t0_9 t0_10 t1_0) from Eq.trans (by have c112x := c112; rw [← e31] at c112x; have c118x := c118; rw [← e117] at c118x; rw [← e122, F_DR_trim_L2.eq_2, if_neg c112x, if_pos c118x]) hR25), (show True ∧ S_DR_trim_L2 t0_0 t0_1 t0_2 t0_3 t0_4 t0_5 t0_6 t0_7 t0_8 t0_9 t0_10 t1_0 fm29 a121 from (by rw [← e122]; have h := hS26; rw [S_DR_trim_L2.eq_2] at h; have c112x := c112; rw [← e31] at c112x; rw [if_neg c112x] at h; replace h := q_s2 h; have c118x := c118; rw [← e117] at c118x; rw [if_pos c118x] at h; with_reducible exact h))⟩⟩
theorem d_15_8_0 : decode prog_15_method_8_code 0 = .ok (.aload_n 0, 1) := by decide +kernel
theorem d_15_8_1 : decode prog_15_method_8_code 1 = .ok (.invokevirtual 59, 3) := by decide +kernel
set_option maxRecDepth 100000 in
theorem w_2416 : (Cond.code ({ cls := "NumberHouseModel$DecimalRows", name := "trim", desc := "()V" } : MethodName) prog_15_method_7_code (3 : Nat) (none : Option ClassFile.FieldType)) ∈ q_tbl := q_of11 16 rfl (by decide +kernel)
set_option maxRecDepth 100000 in
theorem w_2413 : (Cond.methodLink "NumberHouseModel$DecimalRows" (59 : Nat) ({ cls := "NumberHouseModel$DecimalRows", name := "trim", desc := "()V" } : MethodName)) ∈ q_tbl := q_of11 13 rfl (by decide +kernel)
set_option maxRecDepth 100000 in
theorem w_2415 : (Cond.instanceMethod ({ cls := "NumberHouseModel$DecimalRows", name := "trim", desc := "()V" } : MethodName)) ∈ q_tbl := q_of11 15 rfl (by decide +kernel)
theorem ws_64 : Cond.selects "NumberHouseModel$DecimalRows" (⟨"NumberHouseModel$DecimalRows", "trim", "()V"⟩ : MethodName) (⟨"NumberHouseModel$DecimalRows", "trim", "()V"⟩ : MethodName) ∈ q_tbl := q_ofs 64 (by decide +kernel) (by decide +kernel)
theorem LV_DR_59 : q_LV "NumberHouseModel$DecimalRows" 59 y_DR_trim prog_15_method_7_code 3 none 0 := ⟨w_2416, w_16, w_2413, w_2415, ws_64, ⟨by decide, by decide, by decide +kernel⟩⟩
theorem d_15_8_4 : decode prog_15_method_8_code 4 = .ok (.aload_n 0, 1) := by decide +kernel
theorem d_15_8_5 : decode prog_15_method_8_code 5 = .ok (.getfield 45, 3) := by decide +kernel
theorem d_15_8_8 : decode prog_15_method_8_code 8 = .ok (.sipush 1000, 3) := by decide +kernel
theorem d_15_8_11 : decode prog_15_method_8_code 11 = .ok (.if_icmp .gt 25, 3) := by decide +kernel
theorem d_15_8_36 : decode prog_15_method_8_code 36 = .ok (.aload_n 0, 1) := by decide +kernel
theorem d_15_8_37 : decode prog_15_method_8_code 37 = .ok (.aload_n 0, 1) := by decide +kernel
theorem d_15_8_38 : decode prog_15_method_8_code 38 = .ok (.getfield 66, 3) := by decide +kernel
set_option maxRecDepth 100000 in
theorem w_2024 : (Cond.fieldLink "NumberHouseModel$DecimalRows" (66 : Nat) "NumberHouseModel$DecimalRows" "fault" "I") ∈ q_tbl := q_of9 104 rfl (by decide +kernel)
theorem d_15_8_41 : decode prog_15_method_8_code 41 = .ok (.putfield 41, 3) := by decide +kernel
set_option maxRecDepth 100000 in
theorem w_1996 : (Cond.fieldLink "NumberHouseModel$DecimalRows" (41 : Nat) "NumberHouseModel$DecimalRows" "thrown" "I") ∈ q_tbl := q_of9 76 rfl (by decide +kernel)
theorem d_15_8_44 : decode prog_15_method_8_code 44 = .ok (.return_, 1) := by decide +kernel
theorem d_15_8_14 : decode prog_15_method_8_code 14 = .ok (.aload_n 0, 1) := by decide +kernel
theorem d_15_8_15 : decode prog_15_method_8_code 15 = .ok (.getfield 48, 3) := by decide +kernel
theorem d_15_8_18 : decode prog_15_method_8_code 18 = .ok (.ldc2_w 62, 3) := by decide +kernel
set_option maxRecDepth 100000 in
theorem w_2417 : (Cond.constantLong "NumberHouseModel$DecimalRows" (62 : Nat) (-10000 : Int64)) ∈ q_tbl := q_of11 17 rfl (by decide +kernel)
theorem d_15_8_21 : decode prog_15_method_8_code 21 = .ok (.lcmp, 1) := by decide +kernel
theorem d_15_8_22 : decode prog_15_method_8_code 22 = .ok (.ifCond .lt 14, 3) := by decide +kernel
theorem d_15_8_25 : decode prog_15_method_8_code 25 = .ok (.aload_n 0, 1) := by decide +kernel
theorem d_15_8_26 : decode prog_15_method_8_code 26 = .ok (.getfield 48, 3) := by decide +kernel
theorem d_15_8_29 : decode prog_15_method_8_code 29 = .ok (.ldc2_w 64, 3) := by decide +kernel
set_option maxRecDepth 100000 in
theorem w_2418 : (Cond.constantLong "NumberHouseModel$DecimalRows" (64 : Nat) (10000 : Int64)) ∈ q_tbl := q_of11 18 rfl (by decide +kernel)
theorem d_15_8_32 : decode prog_15_method_8_code 32 = .ok (.lcmp, 1) := by decide +kernel
theorem d_15_8_33 : decode prog_15_method_8_code 33 = .ok (.ifCond .le 12, 3) := by decide +kernel
theorem d_15_8_45 : decode prog_15_method_8_code 45 = .ok (.iconst 0, 1) := by decide +kernel
theorem d_15_8_46 : decode prog_15_method_8_code 46 = .ok (.istore_n 2, 1) := by decide +kernel
theorem d_15_8_47 : decode prog_15_method_8_code 47 = .ok (.iload_n 2, 1) := by decide +kernel
theorem d_15_8_48 : decode prog_15_method_8_code 48 = .ok (.aload_n 0, 1) := by decide +kernel
theorem d_15_8_49 : decode prog_15_method_8_code 49 = .ok (.getfield 45, 3) := by decide +kernel
theorem d_15_8_52 : decode prog_15_method_8_code 52 = .ok (.if_icmp .ge 27, 3) := by decide +kernel
theorem d_15_8_79 : decode prog_15_method_8_code 79 = .ok (.aload_n 0, 1) := by decide +kernel
theorem d_15_8_80 : decode prog_15_method_8_code 80 = .ok (.getfield 16, 3) := by decide +kernel
theorem d_15_8_83 : decode prog_15_method_8_code 83 = .ok (.iload_n 1, 1) := by decide +kernel
theorem d_15_8_84 : decode prog_15_method_8_code 84 = .ok (.aload_n 0, 1) := by decide +kernel
theorem d_15_8_85 : decode prog_15_method_8_code 85 = .ok (.getfield 45, 3) := by decide +kernel
theorem d_15_8_88 : decode prog_15_method_8_code 88 = .ok (.iastore, 1) := by decide +kernel
theorem d_15_8_89 : decode prog_15_method_8_code 89 = .ok (.aload_n 0, 1) := by decide +kernel
theorem d_15_8_90 : decode prog_15_method_8_code 90 = .ok (.getfield 19, 3) := by decide +kernel
theorem d_15_8_93 : decode prog_15_method_8_code 93 = .ok (.iload_n 1, 1) := by decide +kernel
theorem d_15_8_94 : decode prog_15_method_8_code 94 = .ok (.aload_n 0, 1) := by decide +kernel
theorem d_15_8_95 : decode prog_15_method_8_code 95 = .ok (.getfield 56, 3) := by decide +kernel
theorem d_15_8_98 : decode prog_15_method_8_code 98 = .ok (.bastore, 1) := by decide +kernel
theorem d_15_8_99 : decode prog_15_method_8_code 99 = .ok (.aload_n 0, 1) := by decide +kernel
theorem d_15_8_100 : decode prog_15_method_8_code 100 = .ok (.getfield 23, 3) := by decide +kernel
theorem d_15_8_103 : decode prog_15_method_8_code 103 = .ok (.iload_n 1, 1) := by decide +kernel
theorem d_15_8_104 : decode prog_15_method_8_code 104 = .ok (.aload_n 0, 1) := by decide +kernel
theorem d_15_8_105 : decode prog_15_method_8_code 105 = .ok (.getfield 48, 3) := by decide +kernel
theorem d_15_8_108 : decode prog_15_method_8_code 108 = .ok (.l2i, 1) := by decide +kernel
theorem d_15_8_109 : decode prog_15_method_8_code 109 = .ok (.iastore, 1) := by decide +kernel
theorem d_15_8_110 : decode prog_15_method_8_code 110 = .ok (.return_, 1) := by decide +kernel
theorem d_15_8_55 : decode prog_15_method_8_code 55 = .ok (.aload_n 0, 1) := by decide +kernel
theorem d_15_8_56 : decode prog_15_method_8_code 56 = .ok (.getfield 13, 3) := by decide +kernel
theorem d_15_8_59 : decode prog_15_method_8_code 59 = .ok (.sipush 1000, 3) := by decide +kernel
theorem d_15_8_62 : decode prog_15_method_8_code 62 = .ok (.iload_n 1, 1) := by decide +kernel
theorem d_15_8_63 : decode prog_15_method_8_code 63 = .ok (.imul, 1) := by decide +kernel
theorem d_15_8_64 : decode prog_15_method_8_code 64 = .ok (.iload_n 2, 1) := by decide +kernel
theorem d_15_8_65 : decode prog_15_method_8_code 65 = .ok (.iadd, 1) := by decide +kernel
theorem d_15_8_66 : decode prog_15_method_8_code 66 = .ok (.aload_n 0, 1) := by decide +kernel
theorem d_15_8_67 : decode prog_15_method_8_code 67 = .ok (.getfield 26, 3) := by decide +kernel
theorem d_15_8_70 : decode prog_15_method_8_code 70 = .ok (.iload_n 2, 1) := by decide +kernel
theorem d_15_8_71 : decode prog_15_method_8_code 71 = .ok (.iaload, 1) := by decide +kernel
theorem d_15_8_72 : decode prog_15_method_8_code 72 = .ok (.iastore, 1) := by decide +kernel
theorem d_15_8_73 : decode prog_15_method_8_code 73 = .ok (.iinc 2 1, 3) := by decide +kernel
theorem d_15_8_76 : decode prog_15_method_8_code 76 = .ok (.goto (-29), 3) := by decide +kernel
def y_DR_store : MethodName := ⟨"NumberHouseModel$DecimalRows", "store", "(I)V"⟩
def F_DR_store_L47 (x2 : Int32) (t0_0 : Int32) (t0_1 : Int32) (t0_2 : Int32) (t0_3 : Int64) (t0_4 : Int32) (t0_5 : Int32) (t0_6 : Int32) (t0_7 : Int32) (t0_8 : Int32) (t0_9 : Int32) (t0_10 : Int32) (t1_0 : (Nat → Int32)) (t2_0 : (Nat → Int32)) (t3_0 : (Nat → Int32)) (t4_0 : (Nat → Int32)) (t5_0 : (Nat → Int32)) (p75 : (Int32 × Int32 × Int32 × Int64 × Int32 × Int32 × Int32 × Int32 × Int32 × Int32 × Int32 × (Nat → Int32))) (y36 : Int32) (y37 : Int32) (y38 : Int32) (y39 : Int64) (y40 : Int32) (y41 : Int32) (y42 : Int32) (y43 : Int32) (y44 : Int32) (y45 : Int32) (y46 : Int32) (f47 : (Nat → Int32)) : Nat → Int32 → (Nat → Int32) → (Int32 × Int32 × Int32 × Int64 × Int32 × Int32 × Int32 × Int32 × Int32 × Int32 × Int32 × (Nat → Int32) × (Nat → Int32) × (Nat → Int32) × (Nat → Int32) × (Nat → Int32))
  | 0, _, _ => default
  | fm + 1, lx113, lx114 => if y38 ≤ lx113 then ((y36, y37, y38, y39, y40, y41, y42, y43, y44, y45, y46, lx114, (upd t2_0 x2.toNatClampNeg y38 : (Nat → Int32)), (upd t3_0 x2.toNatClampNeg (vp_nar .boolean y41) : (Nat → Int32)), (upd t4_0 x2.toNatClampNeg (y39.toInt32 : Int32) : (Nat → Int32)), f47)) else (F_DR_store_L47 x2 t0_0 t0_1 t0_2 t0_3 t0_4 t0_5 t0_6 t0_7 t0_8 t0_9 t0_10 t1_0 t2_0 t3_0 t4_0 t5_0 p75 y36 y37 y38 y39 y40 y41 y42 y43 y44 y45 y46 f47 fm (lx113 + 1 : Int32) (upd lx114 ((1000 * x2 : Int32) + lx113 : Int32).toNatClampNeg (f47 lx113.toNatClampNeg : Int32) : (Nat → Int32)))
def F_DR_store_c1 (x2 : Int32) (t0_0 : Int32) (t0_1 : Int32) (t0_2 : Int32) (t0_3 : Int64) (t0_4 : Int32) (t0_5 : Int32) (t0_6 : Int32) (t0_7 : Int32) (t0_8 : Int32) (t0_9 : Int32) (t0_10 : Int32) (t1_0 : (Nat → Int32)) (t2_0 : (Nat → Int32)) (t3_0 : (Nat → Int32)) (t4_0 : (Nat → Int32)) (t5_0 : (Nat → Int32)) (p75 : (Int32 × Int32 × Int32 × Int64 × Int32 × Int32 × Int32 × Int32 × Int32 × Int32 × Int32 × (Nat → Int32))) : Int32 × Int32 × Int32 × Int64 × Int32 × Int32 × Int32 × Int32 × Int32 × Int32 × Int32 × (Nat → Int32) × (Nat → Int32) × (Nat → Int32) × (Nat → Int32) × (Nat → Int32) := if (1000 : Int32) < (p75.2.2.1 : Int32) then (((p75.2.2.2.2.2.2.2.2.2.2.1 : Int32), (p75.2.1 : Int32), (p75.2.2.1 : Int32), (p75.2.2.2.1 : Int64), (p75.2.2.2.2.1 : Int32), (p75.2.2.2.2.2.1 : Int32), (p75.2.2.2.2.2.2.1 : Int32), (p75.2.2.2.2.2.2.2.1 : Int32), (p75.2.2.2.2.2.2.2.2.1 : Int32), (p75.2.2.2.2.2.2.2.2.2.1 : Int32), (p75.2.2.2.2.2.2.2.2.2.2.1 : Int32), t1_0, t2_0, t3_0, t4_0, (p75.2.2.2.2.2.2.2.2.2.2.2 : (Nat → Int32)))) else (if (lg_cmp (p75.2.2.2.1 : Int64) (-10000) : Int32) < (0 : Int32) then (((p75.2.2.2.2.2.2.2.2.2.2.1 : Int32), (p75.2.1 : Int32), (p75.2.2.1 : Int32), (p75.2.2.2.1 : Int64), (p75.2.2.2.2.1 : Int32), (p75.2.2.2.2.2.1 : Int32), (p75.2.2.2.2.2.2.1 : Int32), (p75.2.2.2.2.2.2.2.1 : Int32), (p75.2.2.2.2.2.2.2.2.1 : Int32), (p75.2.2.2.2.2.2.2.2.2.1 : Int32), (p75.2.2.2.2.2.2.2.2.2.2.1 : Int32), t1_0, t2_0, t3_0, t4_0, (p75.2.2.2.2.2.2.2.2.2.2.2 : (Nat → Int32)))) else (if (lg_cmp (p75.2.2.2.1 : Int64) 10000 : Int32) ≤ (0 : Int32) then (F_DR_store_L47 x2 t0_0 t0_1 t0_2 t0_3 t0_4 t0_5 t0_6 t0_7 t0_8 t0_9 t0_10 t1_0 t2_0 t3_0 t4_0 t5_0 p75 (p75.1 : Int32) (p75.2.1 : Int32) (p75.2.2.1 : Int32) (p75.2.2.2.1 : Int64) (p75.2.2.2.2.1 : Int32) (p75.2.2.2.2.2.1 : Int32) (p75.2.2.2.2.2.2.1 : Int32) (p75.2.2.2.2.2.2.2.1 : Int32) (p75.2.2.2.2.2.2.2.2.1 : Int32) (p75.2.2.2.2.2.2.2.2.2.1 : Int32) (p75.2.2.2.2.2.2.2.2.2.2.1 : Int32) (p75.2.2.2.2.2.2.2.2.2.2.2 : (Nat → Int32)) ((1000 - (0 : Int32).toInt).toNat + 1) 0 t1_0) else (((p75.2.2.2.2.2.2.2.2.2.2.1 : Int32), (p75.2.1 : Int32), (p75.2.2.1 : Int32), (p75.2.2.2.1 : Int64), (p75.2.2.2.2.1 : Int32), (p75.2.2.2.2.2.1 : Int32), (p75.2.2.2.2.2.2.1 : Int32), (p75.2.2.2.2.2.2.2.1 : Int32), (p75.2.2.2.2.2.2.2.2.1 : Int32), (p75.2.2.2.2.2.2.2.2.2.1 : Int32), (p75.2.2.2.2.2.2.2.2.2.2.1 : Int32), t1_0, t2_0, t3_0, t4_0, (p75.2.2.2.2.2.2.2.2.2.2.2 : (Nat → Int32))))))
def F_DR_store (x2 : Int32) (t0_0 : Int32) (t0_1 : Int32) (t0_2 : Int32) (t0_3 : Int64) (t0_4 : Int32) (t0_5 : Int32) (t0_6 : Int32) (t0_7 : Int32) (t0_8 : Int32) (t0_9 : Int32) (t0_10 : Int32) (t1_0 : (Nat → Int32)) (t2_0 : (Nat → Int32)) (t3_0 : (Nat → Int32)) (t4_0 : (Nat → Int32)) (t5_0 : (Nat → Int32)) : Int32 × Int32 × Int32 × Int64 × Int32 × Int32 × Int32 × Int32 × Int32 × Int32 × Int32 × (Nat → Int32) × (Nat → Int32) × (Nat → Int32) × (Nat → Int32) × (Nat → Int32) := F_DR_store_c1 x2 t0_0 t0_1 t0_2 t0_3 t0_4 t0_5 t0_6 t0_7 t0_8 t0_9 t0_10 t1_0 t2_0 t3_0 t4_0 t5_0 ((F_DR_trim t0_0 t0_1 t0_2 t0_3 t0_4 t0_5 t0_6 t0_7 t0_8 t0_9 t0_10 t5_0) : (Int32 × Int32 × Int32 × Int64 × Int32 × Int32 × Int32 × Int32 × Int32 × Int32 × Int32 × (Nat → Int32)))
def S_DR_store_L47 (x2 : Int32) (t0_0 : Int32) (t0_1 : Int32) (t0_2 : Int32) (t0_3 : Int64) (t0_4 : Int32) (t0_5 : Int32) (t0_6 : Int32) (t0_7 : Int32) (t0_8 : Int32) (t0_9 : Int32) (t0_10 : Int32) (t1_0 : (Nat → Int32)) (t2_0 : (Nat → Int32)) (t3_0 : (Nat → Int32)) (t4_0 : (Nat → Int32)) (t5_0 : (Nat → Int32)) (p75 : (Int32 × Int32 × Int32 × Int64 × Int32 × Int32 × Int32 × Int32 × Int32 × Int32 × Int32 × (Nat → Int32))) (y36 : Int32) (y37 : Int32) (y38 : Int32) (y39 : Int64) (y40 : Int32) (y41 : Int32) (y42 : Int32) (y43 : Int32) (y44 : Int32) (y45 : Int32) (y46 : Int32) (f47 : (Nat → Int32)) : Nat → Int32 → (Nat → Int32) → Prop
  | 0, _, _ => False
  | fm + 1, lx113, lx114 => if y38 ≤ lx113 then ((0 ≤ x2.toInt) ∧ ((x2.toInt ≤ 9) ∧ (True))) else ((0 ≤ ((1000 * x2 : Int32) + lx113 : Int32).toInt) ∧ ((((1000 * x2 : Int32) + lx113 : Int32).toInt ≤ 9999) ∧ (S_DR_store_L47 x2 t0_0 t0_1 t0_2 t0_3 t0_4 t0_5 t0_6 t0_7 t0_8 t0_9 t0_10 t1_0 t2_0 t3_0 t4_0 t5_0 p75 y36 y37 y38 y39 y40 y41 y42 y43 y44 y45 y46 f47 fm (lx113 + 1 : Int32) (upd lx114 ((1000 * x2 : Int32) + lx113 : Int32).toNatClampNeg (f47 lx113.toNatClampNeg : Int32) : (Nat → Int32)))))
def S_DR_store_c1 (x2 : Int32) (t0_0 : Int32) (t0_1 : Int32) (t0_2 : Int32) (t0_3 : Int64) (t0_4 : Int32) (t0_5 : Int32) (t0_6 : Int32) (t0_7 : Int32) (t0_8 : Int32) (t0_9 : Int32) (t0_10 : Int32) (t1_0 : (Nat → Int32)) (t2_0 : (Nat → Int32)) (t3_0 : (Nat → Int32)) (t4_0 : (Nat → Int32)) (t5_0 : (Nat → Int32)) (p75 : (Int32 × Int32 × Int32 × Int64 × Int32 × Int32 × Int32 × Int32 × Int32 × Int32 × Int32 × (Nat → Int32))) : Prop := if (1000 : Int32) < (p75.2.2.1 : Int32) then (True) else (if (lg_cmp (p75.2.2.2.1 : Int64) (-10000) : Int32) < (0 : Int32) then (True) else (if (lg_cmp (p75.2.2.2.1 : Int64) 10000 : Int32) ≤ (0 : Int32) then (S_DR_store_L47 x2 t0_0 t0_1 t0_2 t0_3 t0_4 t0_5 t0_6 t0_7 t0_8 t0_9 t0_10 t1_0 t2_0 t3_0 t4_0 t5_0 p75 (p75.1 : Int32) (p75.2.1 : Int32) (p75.2.2.1 : Int32) (p75.2.2.2.1 : Int64) (p75.2.2.2.2.1 : Int32) (p75.2.2.2.2.2.1 : Int32) (p75.2.2.2.2.2.2.1 : Int32) (p75.2.2.2.2.2.2.2.1 : Int32) (p75.2.2.2.2.2.2.2.2.1 : Int32) (p75.2.2.2.2.2.2.2.2.2.1 : Int32) (p75.2.2.2.2.2.2.2.2.2.2.1 : Int32) (p75.2.2.2.2.2.2.2.2.2.2.2 : (Nat → Int32)) ((1000 - (0 : Int32).toInt).toNat + 1) 0 t1_0) else (True)))
def S_DR_store (x2 : Int32) (t0_0 : Int32) (t0_1 : Int32) (t0_2 : Int32) (t0_3 : Int64) (t0_4 : Int32) (t0_5 : Int32) (t0_6 : Int32) (t0_7 : Int32) (t0_8 : Int32) (t0_9 : Int32) (t0_10 : Int32) (t1_0 : (Nat → Int32)) (t2_0 : (Nat → Int32)) (t3_0 : (Nat → Int32)) (t4_0 : (Nat → Int32)) (t5_0 : (Nat → Int32)) : Prop := (True ∧ S_DR_trim t0_0 t0_1 t0_2 t0_3 t0_4 t0_5 t0_6 t0_7 t0_8 t0_9 t0_10 t5_0) ∧ (S_DR_store_c1 x2 t0_0 t0_1 t0_2 t0_3 t0_4 t0_5 t0_6 t0_7 t0_8 t0_9 t0_10 t1_0 t2_0 t3_0 t4_0 t5_0 ((F_DR_trim t0_0 t0_1 t0_2 t0_3 t0_4 t0_5 t0_6 t0_7 t0_8 t0_9 t0_10 t5_0) : (Int32 × Int32 × Int32 × Int64 × Int32 × Int32 × Int32 × Int32 × Int32 × Int32 × Int32 × (Nat → Int32))))
set_option maxRecDepth 100000 in
set_option maxHeartbeats 4000000 in
theorem X_DR_store (l : Launch) (D : va_G) (g : Nat → ClassId) (q : Nat → Nat) (ws : va_W) (x2 : Int32) (hI : q_I (msh g q) q ws) (t0_0 : Int32) (t0_1 : Int32) (t0_2 : Int32) (t0_3 : Int64) (t0_4 : Int32) (t0_5 : Int32) (t0_6 : Int32) (t0_7 : Int32) (t0_8 : Int32) (t0_9 : Int32) (t0_10 : Int32) (hT0 : ws[134]? = (some (q 134, .inr (14, [.int t0_0, .ref (q 135), .int t0_1, .ref (q 136), .ref (q 137), .ref (q 138), .ref (q 139), .ref (q 140), .int t0_2, .long t0_3, .int t0_4, .int t0_5, .ref (q 141), .int t0_6, .ref (q 142), .int t0_7, .ref (q 143), .int t0_8, .ref (q 144), .int t0_9, .int t0_10])) : Option (Nat × va_E))) (t1_0 : (Nat → Int32)) (hT1 : ws[136]? = (some (q 136, .inl (g 0, (10000 : Int32).toNatClampNeg, .inl t1_0)) : Option (Nat × va_E))) (t2_0 : (Nat → Int32)) (hT2 : ws[137]? = (some (q 137, .inl (g 0, (10 : Int32).toNatClampNeg, .inl t2_0)) : Option (Nat × va_E))) (t3_0 : (Nat → Int32)) (hT3 : ws[138]? = (some (q 138, .inl (g 3, 10, .inl t3_0)) : Option (Nat × va_E))) (t4_0 : (Nat → Int32)) (hT4 : ws[139]? = (some (q 139, .inl (g 0, (10 : Int32).toNatClampNeg, .inl t4_0)) : Option (Nat × va_E))) (t5_0 : (Nat → Int32)) (hT5 : ws[140]? = (some (q 140, .inl (g 0, (4400 : Int32).toNatClampNeg, .inl t5_0)) : Option (Nat × va_E))) (hS : True ∧ S_DR_store x2 t0_0 t0_1 t0_2 t0_3 t0_4 t0_5 t0_6 t0_7 t0_8 t0_9 t0_10 t1_0 t2_0 t3_0 t4_0 t5_0) : q_mV l y_DR_store prog_15_method_8_code 3 2 0 0 D g [.ref (q 134), .int x2] ws (fun u => q_I (msh g q) q u ∧ q_un ws u [134, 136, 137, 138, 139, 140] ∧ ∃ (u0_0 : Int32) (u0_1 : Int32) (u0_2 : Int32) (u0_3 : Int64) (u0_4 : Int32) (u0_5 : Int32) (u0_6 : Int32) (u0_7 : Int32) (u0_8 : Int32) (u0_9 : Int32) (u0_10 : Int32) (u1_0 : (Nat → Int32)) (u2_0 : (Nat → Int32)) (u3_0 : (Nat → Int32)) (u4_0 : (Nat → Int32)) (u5_0 : (Nat → Int32)), u[134]? = (some (q 134, .inr (14, [.int u0_0, .ref (q 135), .int u0_1, .ref (q 136), .ref (q 137), .ref (q 138), .ref (q 139), .ref (q 140), .int u0_2, .long u0_3, .int u0_4, .int u0_5, .ref (q 141), .int u0_6, .ref (q 142), .int u0_7, .ref (q 143), .int u0_8, .ref (q 144), .int u0_9, .int u0_10])) : Option (Nat × va_E)) ∧ u[136]? = (some (q 136, .inl (g 0, (10000 : Int32).toNatClampNeg, .inl u1_0)) : Option (Nat × va_E)) ∧ u[137]? = (some (q 137, .inl (g 0, (10 : Int32).toNatClampNeg, .inl u2_0)) : Option (Nat × va_E)) ∧ u[138]? = (some (q 138, .inl (g 3, 10, .inl u3_0)) : Option (Nat × va_E)) ∧ u[139]? = (some (q 139, .inl (g 0, (10 : Int32).toNatClampNeg, .inl u4_0)) : Option (Nat × va_E)) ∧ u[140]? = (some (q 140, .inl (g 0, (4400 : Int32).toNatClampNeg, .inl u5_0)) : Option (Nat × va_E)) ∧ (0 ≤ u0_5.toInt) ∧ (t0_1.toInt ≤ u0_1.toInt) ∧ (u0_1.toInt ≤ t0_1.toInt) ∧ (t0_2.toInt ≤ u0_1.toInt + 24400) ∧ (t0_3.toInt ≤ u0_3.toInt) ∧ (u0_3.toInt ≤ t0_3.toInt) ∧ (t0_2.toInt ≤ u0_4.toInt + 24400) ∧ (t0_4.toInt ≤ u0_4.toInt) ∧ (u0_4.toInt ≤ t0_4.toInt) ∧ (t0_2.toInt ≤ u0_5.toInt + 24400) ∧ (u0_5.toInt ≤ t0_5.toInt) ∧ (t0_6.toInt ≤ u0_6.toInt) ∧ (u0_6.toInt ≤ t0_6.toInt) ∧ (t0_7.toInt ≤ u0_7.toInt) ∧ (u0_7.toInt ≤ t0_7.toInt) ∧ (t0_8.toInt ≤ u0_8.toInt) ∧ (u0_8.toInt ≤ t0_8.toInt) ∧ (t0_2.toInt ≤ u0_9.toInt + 24400) ∧ (t0_9.toInt ≤ u0_9.toInt) ∧ (u0_9.toInt ≤ t0_9.toInt) ∧ (t0_10.toInt ≤ u0_10.toInt) ∧ (u0_10.toInt ≤ t0_10.toInt) ∧ (u0_0, u0_1, u0_2, u0_3, u0_4, u0_5, u0_6, u0_7, u0_8, u0_9, u0_10, u1_0, u2_0, u3_0, u4_0, u5_0) = (F_DR_store x2 t0_0 t0_1 t0_2 t0_3 t0_4 t0_5 t0_6 t0_7 t0_8 t0_9 t0_10 t1_0 t2_0 t3_0 t4_0 t5_0)) := by
  intro sz
  refine q_into (by decide) (Nat.le_of_ble_eq_true rfl) ?_
  intro p e s m below meth c ls hsz C0 V hl
  have hx := C0.1
  have hb := C0.2.1
  obtain ⟨yy0_0, yy0_1, yy0_2, yy0_3, yy0_4, yy0_5, yy0_6, yy0_7, yy0_8, yy0_9, yy0_10, hh0, btt0_1, btt0_4, btt0_5, btt0_9⟩ := n_o134 hI
  obtain ⟨rfl, rfl, rfl, rfl, rfl, rfl, rfl, rfl, rfl, rfl, rfl⟩ : t0_0 = yy0_0 ∧ t0_1 = yy0_1 ∧ t0_2 = yy0_2 ∧ t0_3 = yy0_3 ∧ t0_4 = yy0_4 ∧ t0_5 = yy0_5 ∧ t0_6 = yy0_6 ∧ t0_7 = yy0_7 ∧ t0_8 = yy0_8 ∧ t0_9 = yy0_9 ∧ t0_10 = yy0_10 := by have z := Option.some.inj (hT0.symm.trans hh0); simpa using z
  replace btt0_1 : q_F (0 ≤ t0_1.toInt ∧ t0_1.toInt ≤ 4100) := btt0_1
  replace btt0_4 : q_F (0 ≤ t0_4.toInt ∧ t0_4.toInt ≤ 1) := btt0_4
  replace btt0_5 : q_F (0 ≤ t0_5.toInt ∧ t0_5.toInt ≤ 1) := btt0_5
  replace btt0_9 : q_F (0 ≤ t0_9.toInt ∧ t0_9.toInt ≤ 12200) := btt0_9
  have hF : q_un ws ws [134, 136, 137, 138, 139, 140] := q_u0
  have hl : lv_has ls 3 [(0, .ref (q 134)), (1, .int x2)] := hl
  refine lv_aload_n hx hb d_15_8_0 rfl (lv_at hl 0 rfl) ?_
  have ob32 : True ∧ S_DR_trim t0_0 t0_1 t0_2 t0_3 t0_4 t0_5 t0_6 t0_7 t0_8 t0_9 t0_10 t5_0 := (by have h := hS; rw [S_DR_store.eq_1] at h; with_reducible exact h.2.1)
  refine q_gov V (q_runV (As := []) (rest := []) (d := 1) (mc := 0) (ms := 0) (ci := 14) C0 V rfl LV_DR_59 (X_DR_trim l D g q ws   hI t0_0 t0_1 t0_2 t0_3 t0_4 t0_5 t0_6 t0_7 t0_8 t0_9 t0_10 hT0 t5_0 hT5 ob32 _) rfl rfl hT0 rfl hl.1 rfl (Nat.le_of_ble_eq_true rfl) ⟨by decide, by decide⟩ ⟨Nat.le_of_ble_eq_true rfl, Nat.le_of_ble_eq_true rfl⟩ d_15_8_1) (fun u33 H locs hp34 V => ?_)
  obtain ⟨hI, hu74, y36, y37, y38, y39, y40, y41, y42, y43, y44, y45, y46, f47, hO35, hA48, b49, b50, b51, b52, b53, b54, b55, b56, b57, b58, b59, b60, b61, b62, b63, b64, b65, b66, b67, b68, b69, b70, b71, b72, hE73⟩ := hp34
  replace hO35 : u33[134]? = (some (q 134, .inr (14, [.int y36, .ref (q 135), .int y37, .ref (q 136), .ref (q 137), .ref (q 138), .ref (q 139), .ref (q 140), .int y38, .long y39, .int y40, .int y41, .ref (q 141), .int y42, .ref (q 142), .int y43, .ref (q 143), .int y44, .ref (q 144), .int y45, .int y46])) : Option (Nat × va_E)) := hO35
  replace hA48 : u33[140]? = (some (q 140, .inl (g 0, (4400 : Int32).toNatClampNeg, .inl f47)) : Option (Nat × va_E)) := hA48
  obtain ⟨p75, e76⟩ : ∃ z, z = (F_DR_trim t0_0 t0_1 t0_2 t0_3 t0_4 t0_5 t0_6 t0_7 t0_8 t0_9 t0_10 t5_0) := ⟨_, rfl⟩
  have e77 : y36 = p75.1 := congrArg (fun z => z.1) (hE73.trans e76.symm)
  have e78 : y37 = p75.2.1 := congrArg (fun z => z.2.1) (hE73.trans e76.symm)
  have e79 : y38 = p75.2.2.1 := congrArg (fun z => z.2.2.1) (hE73.trans e76.symm)
  have e80 : y39 = p75.2.2.2.1 := congrArg (fun z => z.2.2.2.1) (hE73.trans e76.symm)
  have e81 : y40 = p75.2.2.2.2.1 := congrArg (fun z => z.2.2.2.2.1) (hE73.trans e76.symm)
  have e82 : y41 = p75.2.2.2.2.2.1 := congrArg (fun z => z.2.2.2.2.2.1) (hE73.trans e76.symm)
  have e83 : y42 = p75.2.2.2.2.2.2.1 := congrArg (fun z => z.2.2.2.2.2.2.1) (hE73.trans e76.symm)
  have e84 : y43 = p75.2.2.2.2.2.2.2.1 := congrArg (fun z => z.2.2.2.2.2.2.2.1) (hE73.trans e76.symm)
  have e85 : y44 = p75.2.2.2.2.2.2.2.2.1 := congrArg (fun z => z.2.2.2.2.2.2.2.2.1) (hE73.trans e76.symm)
  have e86 : y45 = p75.2.2.2.2.2.2.2.2.2.1 := congrArg (fun z => z.2.2.2.2.2.2.2.2.2.1) (hE73.trans e76.symm)
  have e87 : y46 = p75.2.2.2.2.2.2.2.2.2.2.1 := congrArg (fun z => z.2.2.2.2.2.2.2.2.2.2.1) (hE73.trans e76.symm)
  have e88 : f47 = p75.2.2.2.2.2.2.2.2.2.2.2 := congrArg (fun z => z.2.2.2.2.2.2.2.2.2.2.2) (hE73.trans e76.symm)
  replace b49 : q_F (0 ≤ y41.toInt) := b49
  replace b50 : q_F (t0_0.toInt ≤ y36.toInt) := b50
  replace b51 : q_F (y36.toInt ≤ t0_0.toInt) := b51
  replace b52 : q_F (t0_1.toInt ≤ y37.toInt) := b52
  replace b53 : q_F (y37.toInt ≤ t0_1.toInt) := b53
  replace b54 : q_F (t0_2.toInt ≤ y37.toInt + 24400) := b54
  replace b55 : q_F (t0_3.toInt ≤ y39.toInt) := b55
  replace b56 : q_F (y39.toInt ≤ t0_3.toInt) := b56
  replace b57 : q_F (t0_2.toInt ≤ y40.toInt + 24400) := b57
  replace b58 : q_F (t0_4.toInt ≤ y40.toInt) := b58
  replace b59 : q_F (y40.toInt ≤ t0_4.toInt) := b59
  replace b60 : q_F (t0_2.toInt ≤ y41.toInt + 24400) := b60
  replace b61 : q_F (y41.toInt ≤ t0_5.toInt) := b61
  replace b62 : q_F (t0_6.toInt ≤ y42.toInt) := b62
  replace b63 : q_F (y42.toInt ≤ t0_6.toInt) := b63
  replace b64 : q_F (t0_7.toInt ≤ y43.toInt) := b64
  replace b65 : q_F (y43.toInt ≤ t0_7.toInt) := b65
  replace b66 : q_F (t0_8.toInt ≤ y44.toInt) := b66
  replace b67 : q_F (y44.toInt ≤ t0_8.toInt) := b67
  replace b68 : q_F (t0_2.toInt ≤ y45.toInt + 24400) := b68
  replace b69 : q_F (t0_9.toInt ≤ y45.toInt) := b69
  replace b70 : q_F (y45.toInt ≤ t0_9.toInt) := b70
  replace b71 : q_F (t0_10.toInt ≤ y46.toInt) := b71
  replace b72 : q_F (y46.toInt ≤ t0_10.toInt) := b72
  replace hT1 := (hu74 _ (by decide)).trans hT1
  replace hT2 := (hu74 _ (by decide)).trans hT2
  replace hT3 := (hu74 _ (by decide)).trans hT3
  replace hT4 := (hu74 _ (by decide)).trans hT4
  replace hF := q_uc hF hu74 (by simp)
  have hR89 := (show F_DR_store_c1 x2 t0_0 t0_1 t0_2 t0_3 t0_4 t0_5 t0_6 t0_7 t0_8 t0_9 t0_10 t1_0 t2_0 t3_0 t4_0 t5_0 p75 = (F_DR_store x2 t0_0 t0_1 t0_2 t0_3 t0_4 t0_5 t0_6 t0_7 t0_8 t0_9 t0_10 t1_0 t2_0 t3_0 t4_0 t5_0) from (by rw [e76, F_DR_store.eq_1]))
  have hS90 := (show True ∧ S_DR_store_c1 x2 t0_0 t0_1 t0_2 t0_3 t0_4 t0_5 t0_6 t0_7 t0_8 t0_9 t0_10 t1_0 t2_0 t3_0 t4_0 t5_0 p75 from (by rw [e76]; have h := hS; rw [S_DR_store.eq_1] at h; replace h := q_s2 h; with_reducible exact h))
  refine lv_aload_n hx hb d_15_8_4 rfl (lv_at hl 0 rfl) ?_
  refine q_get (ci := 14) (j := 8) (v := .int y38) C0 V i_DR rfl rfl hO35 (by decide) w_2011 rfl d_15_8_5 ?_
  refine lv_sipush (v := 1000) hx hb d_15_8_8 (by decide) ?_
  refine lv_icmp_gt (tgt := 36) hx hb d_15_8_11 (by decide) (fun c94 => ?_) (fun c94 => ?_)
  ·
    have b95 : q_F (1000 < y38.toInt) := (q_ltI c94)
    refine lv_aload_n hx hb d_15_8_36 rfl (lv_at hl 0 rfl) ?_
    refine lv_aload_n hx hb d_15_8_37 rfl (lv_at hl 0 rfl) ?_
    refine q_get (ci := 14) (j := 20) (v := .int y46) C0 V i_DR rfl rfl hO35 (by decide) w_2024 rfl d_15_8_38 ?_
    refine q_put (ci := 14) (j := 0) (v := .int y46) (ty := .int) C0 V i_DR o_DR n_DR rfl rfl hO35 (by decide) w_1996 rfl rfl rfl rfl (Nat.le_of_ble_eq_true rfl) d_15_8_41 (fun H locs w96 hu97 hO35 V => ?_)
    replace hO35 : w96[134]? = (some (q 134, .inr (14, [.int y46, .ref (q 135), .int y37, .ref (q 136), .ref (q 137), .ref (q 138), .ref (q 139), .ref (q 140), .int y38, .long y39, .int y40, .int y41, .ref (q 141), .int y42, .ref (q 142), .int y43, .ref (q 143), .int y44, .ref (q 144), .int y45, .int y46])) : Option (Nat × va_E)) := hO35
    replace hI := n_p134 hI hu97 hO35 ⟨(by have t1 : 0 ≤ t0_1.toInt ∧ t0_1.toInt ≤ 4100 := btt0_1; have t2 : t0_1.toInt ≤ y37.toInt := b52; omega), (by have t1 : 0 ≤ t0_1.toInt ∧ t0_1.toInt ≤ 4100 := btt0_1; have t2 : y37.toInt ≤ t0_1.toInt := b53; omega)⟩ ⟨(by have t1 : 0 ≤ t0_4.toInt ∧ t0_4.toInt ≤ 1 := btt0_4; have t2 : t0_4.toInt ≤ y40.toInt := b58; omega), (by have t1 : 0 ≤ t0_4.toInt ∧ t0_4.toInt ≤ 1 := btt0_4; have t2 : y40.toInt ≤ t0_4.toInt := b59; omega)⟩ ⟨(by have t1 : 0 ≤ y41.toInt := b49; omega), (by have t1 : 0 ≤ t0_5.toInt ∧ t0_5.toInt ≤ 1 := btt0_5; have t2 : y41.toInt ≤ t0_5.toInt := b61; omega)⟩ ⟨(by have t1 : 0 ≤ t0_9.toInt ∧ t0_9.toInt ≤ 12200 := btt0_9; have t2 : t0_9.toInt ≤ y45.toInt := b69; omega), (by have t1 : 0 ≤ t0_9.toInt ∧ t0_9.toInt ≤ 12200 := btt0_9; have t2 : y45.toInt ≤ t0_9.toInt := b70; omega)⟩
    replace hT1 := (hu97 _ (by decide)).trans hT1
    replace hT2 := (hu97 _ (by decide)).trans hT2
    replace hT3 := (hu97 _ (by decide)).trans hT3
    replace hT4 := (hu97 _ (by decide)).trans hT4
    replace hA48 := (hu97 _ (by decide)).trans hA48
    replace hF := q_us hF hu97 (by simp)
    exact q_retv C0 V (⟨hI, hF, y46, y37, y38, y39, y40, y41, y42, y43, y44, y45, y46, t1_0, t2_0, t3_0, t4_0, f47, hO35, hT1, hT2, hT3, hT4, hA48, (show 0 ≤ y41.toInt from (by have t1 : 0 ≤ y41.toInt := b49; omega)), (show t0_1.toInt ≤ y37.toInt from (by have t1 : t0_1.toInt ≤ y37.toInt := b52; omega)), (show y37.toInt ≤ t0_1.toInt from (by have t1 : y37.toInt ≤ t0_1.toInt := b53; omega)), (show t0_2.toInt ≤ y37.toInt + 24400 from (by have t1 : t0_2.toInt ≤ y37.toInt + 24400 := b54; omega)), (show t0_3.toInt ≤ y39.toInt from (by have t1 : t0_3.toInt ≤ y39.toInt := b55; omega)), (show y39.toInt ≤ t0_3.toInt from (by have t1 : y39.toInt ≤ t0_3.toInt := b56; omega)), (show t0_2.toInt ≤ y40.toInt + 24400 from (by have t1 : t0_2.toInt ≤ y40.toInt + 24400 := b57; omega)), (show t0_4.toInt ≤ y40.toInt from (by have t1 : t0_4.toInt ≤ y40.toInt := b58; omega)), (show y40.toInt ≤ t0_4.toInt from (by have t1 : y40.toInt ≤ t0_4.toInt := b59; omega)), (show t0_2.toInt ≤ y41.toInt + 24400 from (by have t1 : t0_2.toInt ≤ y41.toInt + 24400 := b60; omega)), (show y41.toInt ≤ t0_5.toInt from (by have t1 : y41.toInt ≤ t0_5.toInt := b61; omega)), (show t0_6.toInt ≤ y42.toInt from (by have t1 : t0_6.toInt ≤ y42.toInt := b62; omega)), (show y42.toInt ≤ t0_6.toInt from (by have t1 : y42.toInt ≤ t0_6.toInt := b63; omega)), (show t0_7.toInt ≤ y43.toInt from (by have t1 : t0_7.toInt ≤ y43.toInt := b64; omega)), (show y43.toInt ≤ t0_7.toInt from (by have t1 : y43.toInt ≤ t0_7.toInt := b65; omega)), (show t0_8.toInt ≤ y44.toInt from (by have t1 : t0_8.toInt ≤ y44.toInt := b66; omega)), (show y44.toInt ≤ t0_8.toInt from (by have t1 : y44.toInt ≤ t0_8.toInt := b67; omega)), (show t0_2.toInt ≤ y45.toInt + 24400 from (by have t1 : t0_2.toInt ≤ y45.toInt + 24400 := b68; omega)), (show t0_9.toInt ≤ y45.toInt from (by have t1 : t0_9.toInt ≤ y45.toInt := b69; omega)), (show y45.toInt ≤ t0_9.toInt from (by have t1 : y45.toInt ≤ t0_9.toInt := b70; omega)), (show t0_10.toInt ≤ y46.toInt from (by have t1 : t0_10.toInt ≤ y46.toInt := b71; omega)), (show y46.toInt ≤ t0_10.toInt from (by have t1 : y46.toInt ≤ t0_10.toInt := b72; omega)), (show (y46, y37, y38, y39, y40, y41, y42, y43, y44, y45, y46, t1_0, t2_0, t3_0, t4_0, f47) = (F_DR_store x2 t0_0 t0_1 t0_2 t0_3 t0_4 t0_5 t0_6 t0_7 t0_8 t0_9 t0_10 t1_0 t2_0 t3_0 t4_0 t5_0) from Eq.trans (by have c94x := c94; rw [e79] at c94x; rw [e88, e87, e86, e85, e84, e83, e82, e81, e80, e79, e78, F_DR_store_c1.eq_1, if_pos c94x]) hR89)⟩) d_15_8_44
  ·
    have b98 : q_F (y38.toInt ≤ 1000) := (q_nltI c94)
    refine lv_aload_n hx hb d_15_8_14 rfl (lv_at hl 0 rfl) ?_
    refine q_get (ci := 14) (j := 9) (v := .long y39) C0 V i_DR rfl rfl hO35 (by decide) w_2012 rfl d_15_8_15 ?_
    refine q_ldc2 C0 rfl w_2417 d_15_8_18 ?_
    refine W.lcmp hx hb d_15_8_21 ?_
    obtain ⟨a99, e100⟩ := q_nm (lg_cmp y39 (-10000) : Int32)
    refine q_ti (v := a99) e100 ?_
    have b101 : q_F (-1 ≤ a99.toInt ∧ a99.toInt ≤ 1 ∧ ((a99.toInt = -1 ∧ y39.toInt < (-10000)) ∨ (a99.toInt = 0 ∧ y39.toInt = (-10000)) ∨ (a99.toInt = 1 ∧ (-10000) < y39.toInt))) := (by rw [← e100]; show -1 ≤ (lg_cmp y39 (-10000) : Int32).toInt ∧ (lg_cmp y39 (-10000) : Int32).toInt ≤ 1 ∧ (((lg_cmp y39 (-10000) : Int32).toInt = -1 ∧ y39.toInt < (-10000)) ∨ ((lg_cmp y39 (-10000) : Int32).toInt = 0 ∧ y39.toInt = (-10000)) ∨ ((lg_cmp y39 (-10000) : Int32).toInt = 1 ∧ (-10000) < y39.toInt)); exact (by have y1 : (-10000 : Int64).toInt = -10000 := rfl; have z := s_lcmp (a := y39) (b := (-10000)); omega))
    refine lv_if_lt (tgt := 36) hx hb d_15_8_22 (by decide) (fun c102 => ?_) (fun c102 => ?_)
    ·
      have b103 : q_F (a99.toInt < 0) := (q_ltI c102)
      refine lv_aload_n hx hb d_15_8_36 rfl (lv_at hl 0 rfl) ?_
      refine lv_aload_n hx hb d_15_8_37 rfl (lv_at hl 0 rfl) ?_
      refine q_get (ci := 14) (j := 20) (v := .int y46) C0 V i_DR rfl rfl hO35 (by decide) w_2024 rfl d_15_8_38 ?_
      refine q_put (ci := 14) (j := 0) (v := .int y46) (ty := .int) C0 V i_DR o_DR n_DR rfl rfl hO35 (by decide) w_1996 rfl rfl rfl rfl (Nat.le_of_ble_eq_true rfl) d_15_8_41 (fun H locs w104 hu105 hO35 V => ?_)
      replace hO35 : w104[134]? = (some (q 134, .inr (14, [.int y46, .ref (q 135), .int y37, .ref (q 136), .ref (q 137), .ref (q 138), .ref (q 139), .ref (q 140), .int y38, .long y39, .int y40, .int y41, .ref (q 141), .int y42, .ref (q 142), .int y43, .ref (q 143), .int y44, .ref (q 144), .int y45, .int y46])) : Option (Nat × va_E)) := hO35
      replace hI := n_p134 hI hu105 hO35 ⟨(by have t1 : 0 ≤ t0_1.toInt ∧ t0_1.toInt ≤ 4100 := btt0_1; have t2 : t0_1.toInt ≤ y37.toInt := b52; omega), (by have t1 : 0 ≤ t0_1.toInt ∧ t0_1.toInt ≤ 4100 := btt0_1; have t2 : y37.toInt ≤ t0_1.toInt := b53; omega)⟩ ⟨(by have t1 : 0 ≤ t0_4.toInt ∧ t0_4.toInt ≤ 1 := btt0_4; have t2 : t0_4.toInt ≤ y40.toInt := b58; omega), (by have t1 : 0 ≤ t0_4.toInt ∧ t0_4.toInt ≤ 1 := btt0_4; have t2 : y40.toInt ≤ t0_4.toInt := b59; omega)⟩ ⟨(by have t1 : 0 ≤ y41.toInt := b49; omega), (by have t1 : 0 ≤ t0_5.toInt ∧ t0_5.toInt ≤ 1 := btt0_5; have t2 : y41.toInt ≤ t0_5.toInt := b61; omega)⟩ ⟨(by have t1 : 0 ≤ t0_9.toInt ∧ t0_9.toInt ≤ 12200 := btt0_9; have t2 : t0_9.toInt ≤ y45.toInt := b69; omega), (by have t1 : 0 ≤ t0_9.toInt ∧ t0_9.toInt ≤ 12200 := btt0_9; have t2 : y45.toInt ≤ t0_9.toInt := b70; omega)⟩
      replace hT1 := (hu105 _ (by decide)).trans hT1
      replace hT2 := (hu105 _ (by decide)).trans hT2
      replace hT3 := (hu105 _ (by decide)).trans hT3
      replace hT4 := (hu105 _ (by decide)).trans hT4
      replace hA48 := (hu105 _ (by decide)).trans hA48
      replace hF := q_us hF hu105 (by simp)
      exact q_retv C0 V (⟨hI, hF, y46, y37, y38, y39, y40, y41, y42, y43, y44, y45, y46, t1_0, t2_0, t3_0, t4_0, f47, hO35, hT1, hT2, hT3, hT4, hA48, (show 0 ≤ y41.toInt from (by have t1 : 0 ≤ y41.toInt := b49; omega)), (show t0_1.toInt ≤ y37.toInt from (by have t1 : t0_1.toInt ≤ y37.toInt := b52; omega)), (show y37.toInt ≤ t0_1.toInt from (by have t1 : y37.toInt ≤ t0_1.toInt := b53; omega)), (show t0_2.toInt ≤ y37.toInt + 24400 from (by have t1 : t0_2.toInt ≤ y37.toInt + 24400 := b54; omega)), (show t0_3.toInt ≤ y39.toInt from (by have t1 : t0_3.toInt ≤ y39.toInt := b55; omega)), (show y39.toInt ≤ t0_3.toInt from (by have t1 : y39.toInt ≤ t0_3.toInt := b56; omega)), (show t0_2.toInt ≤ y40.toInt + 24400 from (by have t1 : t0_2.toInt ≤ y40.toInt + 24400 := b57; omega)), (show t0_4.toInt ≤ y40.toInt from (by have t1 : t0_4.toInt ≤ y40.toInt := b58; omega)), (show y40.toInt ≤ t0_4.toInt from (by have t1 : y40.toInt ≤ t0_4.toInt := b59; omega)), (show t0_2.toInt ≤ y41.toInt + 24400 from (by have t1 : t0_2.toInt ≤ y41.toInt + 24400 := b60; omega)), (show y41.toInt ≤ t0_5.toInt from (by have t1 : y41.toInt ≤ t0_5.toInt := b61; omega)), (show t0_6.toInt ≤ y42.toInt from (by have t1 : t0_6.toInt ≤ y42.toInt := b62; omega)), (show y42.toInt ≤ t0_6.toInt from (by have t1 : y42.toInt ≤ t0_6.toInt := b63; omega)), (show t0_7.toInt ≤ y43.toInt from (by have t1 : t0_7.toInt ≤ y43.toInt := b64; omega)), (show y43.toInt ≤ t0_7.toInt from (by have t1 : y43.toInt ≤ t0_7.toInt := b65; omega)), (show t0_8.toInt ≤ y44.toInt from (by have t1 : t0_8.toInt ≤ y44.toInt := b66; omega)), (show y44.toInt ≤ t0_8.toInt from (by have t1 : y44.toInt ≤ t0_8.toInt := b67; omega)), (show t0_2.toInt ≤ y45.toInt + 24400 from (by have t1 : t0_2.toInt ≤ y45.toInt + 24400 := b68; omega)), (show t0_9.toInt ≤ y45.toInt from (by have t1 : t0_9.toInt ≤ y45.toInt := b69; omega)), (show y45.toInt ≤ t0_9.toInt from (by have t1 : y45.toInt ≤ t0_9.toInt := b70; omega)), (show t0_10.toInt ≤ y46.toInt from (by have t1 : t0_10.toInt ≤ y46.toInt := b71; omega)), (show y46.toInt ≤ t0_10.toInt from (by have t1 : y46.toInt ≤ t0_10.toInt := b72; omega)), (show (y46, y37, y38, y39, y40, y41, y42, y43, y44, y45, y46, t1_0, t2_0, t3_0, t4_0, f47) = (F_DR_store x2 t0_0 t0_1 t0_2 t0_3 t0_4 t0_5 t0_6 t0_7 t0_8 t0_9 t0_10 t1_0 t2_0 t3_0 t4_0 t5_0) from Eq.trans (by have c94x := c94; rw [e79] at c94x; have c102x := c102; rw [← e100, e80] at c102x; rw [e88, e87, e86, e85, e84, e83, e82, e81, e80, e79, e78, F_DR_store_c1.eq_1, if_neg c94x, if_pos c102x]) hR89)⟩) d_15_8_44
    ·
      have b106 : q_F (0 ≤ a99.toInt) := (q_nltI c102)
      refine lv_aload_n hx hb d_15_8_25 rfl (lv_at hl 0 rfl) ?_
      refine q_get (ci := 14) (j := 9) (v := .long y39) C0 V i_DR rfl rfl hO35 (by decide) w_2012 rfl d_15_8_26 ?_
      refine q_ldc2 C0 rfl w_2418 d_15_8_29 ?_
      refine W.lcmp hx hb d_15_8_32 ?_
      obtain ⟨a107, e108⟩ := q_nm (lg_cmp y39 10000 : Int32)
      refine q_ti (v := a107) e108 ?_
      have b109 : q_F (-1 ≤ a107.toInt ∧ a107.toInt ≤ 1 ∧ ((a107.toInt = -1 ∧ y39.toInt < 10000) ∨ (a107.toInt = 0 ∧ y39.toInt = 10000) ∨ (a107.toInt = 1 ∧ 10000 < y39.toInt))) := (by rw [← e108]; show -1 ≤ (lg_cmp y39 10000 : Int32).toInt ∧ (lg_cmp y39 10000 : Int32).toInt ≤ 1 ∧ (((lg_cmp y39 10000 : Int32).toInt = -1 ∧ y39.toInt < 10000) ∨ ((lg_cmp y39 10000 : Int32).toInt = 0 ∧ y39.toInt = 10000) ∨ ((lg_cmp y39 10000 : Int32).toInt = 1 ∧ 10000 < y39.toInt)); exact (by have y1 : (10000 : Int64).toInt = 10000 := rfl; have z := s_lcmp (a := y39) (b := 10000); omega))
      refine lv_if_le (tgt := 45) hx hb d_15_8_33 (by decide) (fun c110 => ?_) (fun c110 => ?_)
      ·
        have b111 : q_F (a107.toInt ≤ 0) := (q_leI c110)
        refine lv_iconst (v := 0) hx hb d_15_8_45 (by decide) ?_
        refine lv_istore_n (lv' := [(2, .int 0), (0, .ref (q 134)), (1, .int x2)]) hx hb d_15_8_46 rfl hl (by decide) rfl (fun ls hl => ?_)
        refine q_loop (X := Int32 × (Nat → Int32)) (fun z H locs ls w118 => q_F (0 ≤ z.1.toInt) ∧ q_F (z.1.toInt ≤ 1000) ∧ q_Wd D g (va_A ws sz) s w118 H locs ∧ lv_has ls 3 [(2, .int z.1), (0, .ref (q 134)), (1, .int x2)] ∧ q_I (msh g q) q w118 ∧ q_un ws w118 [134, 136, 137, 138, 139, 140] ∧ w118[134]? = (some (q 134, .inr (14, [.int y36, .ref (q 135), .int y37, .ref (q 136), .ref (q 137), .ref (q 138), .ref (q 139), .ref (q 140), .int y38, .long y39, .int y40, .int y41, .ref (q 141), .int y42, .ref (q 142), .int y43, .ref (q 143), .int y44, .ref (q 144), .int y45, .int y46])) : Option (Nat × va_E)) ∧ w118[136]? = (some (q 136, .inl (g 0, (10000 : Int32).toNatClampNeg, .inl z.2)) : Option (Nat × va_E)) ∧ w118[137]? = (some (q 137, .inl (g 0, (10 : Int32).toNatClampNeg, .inl t2_0)) : Option (Nat × va_E)) ∧ w118[138]? = (some (q 138, .inl (g 3, 10, .inl t3_0)) : Option (Nat × va_E)) ∧ w118[139]? = (some (q 139, .inl (g 0, (10 : Int32).toNatClampNeg, .inl t4_0)) : Option (Nat × va_E)) ∧ w118[140]? = (some (q 140, .inl (g 0, (4400 : Int32).toNatClampNeg, .inl f47)) : Option (Nat × va_E)) ∧ (∃ n, (1000 - z.1.toInt).toNat < n ∧ F_DR_store_L47 x2 t0_0 t0_1 t0_2 t0_3 t0_4 t0_5 t0_6 t0_7 t0_8 t0_9 t0_10 t1_0 t2_0 t3_0 t4_0 t5_0 p75 y36 y37 y38 y39 y40 y41 y42 y43 y44 y45 y46 f47 n z.1 z.2 = (F_DR_store x2 t0_0 t0_1 t0_2 t0_3 t0_4 t0_5 t0_6 t0_7 t0_8 t0_9 t0_10 t1_0 t2_0 t3_0 t4_0 t5_0) ∧ True ∧ S_DR_store_L47 x2 t0_0 t0_1 t0_2 t0_3 t0_4 t0_5 t0_6 t0_7 t0_8 t0_9 t0_10 t1_0 t2_0 t3_0 t4_0 t5_0 p75 y36 y37 y38 y39 y40 y41 y42 y43 y44 y45 y46 f47 n z.1 z.2)) (fun z => (1000 - z.1.toInt).toNat) ?_ ((0 : Int32), (t1_0 : (Nat → Int32))) _ _ _ u33 ⟨(show q_F (0 ≤ 0) from (show 0 ≤ 0 from by omega)), (show q_F (0 ≤ 1000) from (show 0 ≤ 1000 from by omega)), V, q_lw hl (q_lw1 0 rfl (q_lw1 1 rfl (q_lw1 2 rfl q_lw0))), hI, hF, hO35, hT1, hT2, hT3, hT4, hA48, ⟨((1000 - (0 : Int32).toInt).toNat + 1), Nat.lt_succ_self _, (show F_DR_store_L47 x2 t0_0 t0_1 t0_2 t0_3 t0_4 t0_5 t0_6 t0_7 t0_8 t0_9 t0_10 t1_0 t2_0 t3_0 t4_0 t5_0 p75 y36 y37 y38 y39 y40 y41 y42 y43 y44 y45 y46 f47 ((1000 - (0 : Int32).toInt).toNat + 1) 0 t1_0 = (F_DR_store x2 t0_0 t0_1 t0_2 t0_3 t0_4 t0_5 t0_6 t0_7 t0_8 t0_9 t0_10 t1_0 t2_0 t3_0 t4_0 t5_0) from Eq.trans (by have c94x := c94; rw [e79] at c94x; have c102x := c102; rw [← e100, e80] at c102x; have c110x := c110; rw [← e108, e80] at c110x; rw [e88, e87, e86, e85, e84, e83, e82, e81, e80, e79, e78, e77, F_DR_store_c1.eq_1, if_neg c94x, if_neg c102x, if_pos c110x]) hR89), (show True ∧ S_DR_store_L47 x2 t0_0 t0_1 t0_2 t0_3 t0_4 t0_5 t0_6 t0_7 t0_8 t0_9 t0_10 t1_0 t2_0 t3_0 t4_0 t5_0 p75 y36 y37 y38 y39 y40 y41 y42 y43 y44 y45 y46 f47 ((1000 - (0 : Int32).toInt).toNat + 1) 0 t1_0 from (by rw [e88, e87, e86, e85, e84, e83, e82, e81, e80, e79, e78, e77]; have h := hS90; rw [S_DR_store_c1.eq_1] at h; have c94x := c94; rw [e79] at c94x; rw [if_neg c94x] at h; have c102x := c102; rw [← e100, e80] at c102x; rw [if_neg c102x] at h; have c110x := c110; rw [← e108, e80] at c110x; rw [if_pos c110x] at h; with_reducible exact h))⟩⟩
        rintro ⟨lx113, lx114⟩ H locs ls w118 ⟨i115, i116, V, hl, hI, hF, hO119, hO120, hO121, hO122, hO123, hO124, ⟨fu127, hf128, hR125, hS126⟩⟩ ih117
        obtain ⟨fm129, rfl⟩ : ∃ m, fu127 = m + 1 := ⟨fu127 - 1, by omega⟩
        replace i115 : q_F (0 ≤ lx113.toInt) := i115
        replace i116 : q_F (lx113.toInt ≤ 1000) := i116
        replace hl : lv_has ls 3 [(2, .int lx113), (0, .ref (q 134)), (1, .int x2)] := hl
        replace hO119 : w118[134]? = (some (q 134, .inr (14, [.int y36, .ref (q 135), .int y37, .ref (q 136), .ref (q 137), .ref (q 138), .ref (q 139), .ref (q 140), .int y38, .long y39, .int y40, .int y41, .ref (q 141), .int y42, .ref (q 142), .int y43, .ref (q 143), .int y44, .ref (q 144), .int y45, .int y46])) : Option (Nat × va_E)) := hO119
        replace hO120 : w118[136]? = (some (q 136, .inl (g 0, (10000 : Int32).toNatClampNeg, .inl lx114)) : Option (Nat × va_E)) := hO120
        replace hO121 : w118[137]? = (some (q 137, .inl (g 0, (10 : Int32).toNatClampNeg, .inl t2_0)) : Option (Nat × va_E)) := hO121
        replace hO122 : w118[138]? = (some (q 138, .inl (g 3, 10, .inl t3_0)) : Option (Nat × va_E)) := hO122
        replace hO123 : w118[139]? = (some (q 139, .inl (g 0, (10 : Int32).toNatClampNeg, .inl t4_0)) : Option (Nat × va_E)) := hO123
        replace hO124 : w118[140]? = (some (q 140, .inl (g 0, (4400 : Int32).toNatClampNeg, .inl f47)) : Option (Nat × va_E)) := hO124
        refine lv_iload_n hx hb d_15_8_47 rfl (lv_at hl 0 rfl) ?_
        refine lv_aload_n hx hb d_15_8_48 rfl (lv_at hl 1 rfl) ?_
        refine q_get (ci := 14) (j := 8) (v := .int y38) C0 V i_DR rfl rfl hO119 (by decide) w_2011 rfl d_15_8_49 ?_
        refine lv_icmp_ge (tgt := 79) hx hb d_15_8_52 (by decide) (fun c130 => ?_) (fun c130 => ?_)
        ·
          have b131 : q_F (y38.toInt ≤ lx113.toInt) := (q_leI c130)
          refine lv_aload_n hx hb d_15_8_79 rfl (lv_at hl 1 rfl) ?_
          refine q_get (ci := 14) (j := 4) (v := .ref (q 137)) C0 V i_DR rfl rfl hO119 (by decide) w_2004 rfl d_15_8_80 ?_
          refine lv_iload_n hx hb d_15_8_83 rfl (lv_at hl 2 rfl) ?_
          refine lv_aload_n hx hb d_15_8_84 rfl (lv_at hl 1 rfl) ?_
          refine q_get (ci := 14) (j := 8) (v := .int y38) C0 V i_DR rfl rfl hO119 (by decide) w_2011 rfl d_15_8_85 ?_
          have ob132 : q_F (0 ≤ x2.toInt) := (by have h := hS126; rw [S_DR_store_L47.eq_2] at h; rw [if_pos c130] at h; exact h.2.1)
          have ob133 : q_F (x2.toInt ≤ 9) := (by have h := hS126; rw [S_DR_store_L47.eq_2] at h; rw [if_pos c130] at h; replace h := q_s2 h; exact h.2.1)
          refine q_iast C0 V hO121 (q_ix (x := x2.toInt) rfl (by have t1 : 0 ≤ x2.toInt := ob132; omega) (by have t1 : 0 ≤ x2.toInt := ob132; have t2 : x2.toInt ≤ 9 := ob133; have e9 : (((10 : Int32).toNatClampNeg : Nat) : Int) = 10 := (by decide); omega)) d_15_8_88 (fun H locs w134 hu135 hO121 V => ?_)
          replace hI := n_ai' hI (n_r137 g q).1 hu135 hO121 (q_updB (fun _ => s_bnd) s_bnd)
          replace hO119 := (hu135 _ (by decide)).trans hO119
          replace hO120 := (hu135 _ (by decide)).trans hO120
          replace hO122 := (hu135 _ (by decide)).trans hO122
          replace hO123 := (hu135 _ (by decide)).trans hO123
          replace hO124 := (hu135 _ (by decide)).trans hO124
          replace hF := q_us hF hu135 (by simp)
          obtain ⟨f136, e137⟩ := q_nm (upd t2_0 x2.toNatClampNeg y38 : (Nat → Int32))
          rw [e137] at hO121
          refine lv_aload_n hx hb d_15_8_89 rfl (lv_at hl 1 rfl) ?_
          refine q_get (ci := 14) (j := 5) (v := .ref (q 138)) C0 V i_DR rfl rfl hO119 (by decide) w_2006 rfl d_15_8_90 ?_
          refine lv_iload_n hx hb d_15_8_93 rfl (lv_at hl 2 rfl) ?_
          refine lv_aload_n hx hb d_15_8_94 rfl (lv_at hl 1 rfl) ?_
          refine q_get (ci := 14) (j := 11) (v := .int y41) C0 V i_DR rfl rfl hO119 (by decide) w_2014 rfl d_15_8_95 ?_
          refine q_zast C0 V hO122 (q_ix (x := x2.toInt) rfl (by have t1 : 0 ≤ x2.toInt := ob132; omega) (by have t1 : 0 ≤ x2.toInt := ob132; have t2 : x2.toInt ≤ 9 := ob133; omega)) d_15_8_98 (fun H locs w138 hu139 hO122 V => ?_)
          replace hI := n_ai' hI (n_s138 g q) hu139 hO122 (q_updB (fun _ => s_bnd) s_bnd)
          replace hO119 := (hu139 _ (by decide)).trans hO119
          replace hO120 := (hu139 _ (by decide)).trans hO120
          replace hO121 := (hu139 _ (by decide)).trans hO121
          replace hO123 := (hu139 _ (by decide)).trans hO123
          replace hO124 := (hu139 _ (by decide)).trans hO124
          replace hF := q_us hF hu139 (by simp)
          obtain ⟨f140, e141⟩ := q_nm (upd t3_0 x2.toNatClampNeg (vp_nar .boolean y41) : (Nat → Int32))
          rw [e141] at hO122
          refine lv_aload_n hx hb d_15_8_99 rfl (lv_at hl 1 rfl) ?_
          refine q_get (ci := 14) (j := 6) (v := .ref (q 139)) C0 V i_DR rfl rfl hO119 (by decide) w_2008 rfl d_15_8_100 ?_
          refine lv_iload_n hx hb d_15_8_103 rfl (lv_at hl 2 rfl) ?_
          refine lv_aload_n hx hb d_15_8_104 rfl (lv_at hl 1 rfl) ?_
          refine q_get (ci := 14) (j := 9) (v := .long y39) C0 V i_DR rfl rfl hO119 (by decide) w_2012 rfl d_15_8_105 ?_
          refine lv_l2i hx hb d_15_8_108 rfl ?_
          obtain ⟨a142, e143⟩ := q_nm (y39.toInt32 : Int32)
          refine q_ti (v := a142) e143 ?_
          have b144 : q_F (a142.toInt = y39.toInt) := (by rw [← e143]; show (y39.toInt32 : Int32).toInt = y39.toInt; exact s_l2i (by have t1 : -1 ≤ a99.toInt ∧ a99.toInt ≤ 1 ∧ ((a99.toInt = -1 ∧ y39.toInt < (-10000)) ∨ (a99.toInt = 0 ∧ y39.toInt = (-10000)) ∨ (a99.toInt = 1 ∧ (-10000) < y39.toInt)) := b101; have t2 : 0 ≤ a99.toInt := b106; have t3 : -1 ≤ a107.toInt ∧ a107.toInt ≤ 1 ∧ ((a107.toInt = -1 ∧ y39.toInt < 10000) ∨ (a107.toInt = 0 ∧ y39.toInt = 10000) ∨ (a107.toInt = 1 ∧ 10000 < y39.toInt)) := b109; have t4 : a107.toInt ≤ 0 := b111; omega) (by have t1 : -1 ≤ a99.toInt ∧ a99.toInt ≤ 1 ∧ ((a99.toInt = -1 ∧ y39.toInt < (-10000)) ∨ (a99.toInt = 0 ∧ y39.toInt = (-10000)) ∨ (a99.toInt = 1 ∧ (-10000) < y39.toInt)) := b101; have t2 : 0 ≤ a99.toInt := b106; have t3 : -1 ≤ a107.toInt ∧ a107.toInt ≤ 1 ∧ ((a107.toInt = -1 ∧ y39.toInt < 10000) ∨ (a107.toInt = 0 ∧ y39.toInt = 10000) ∨ (a107.toInt = 1 ∧ 10000 < y39.toInt)) := b109; have t4 : a107.toInt ≤ 0 := b111; omega))
          refine q_iast C0 V hO123 (q_ix (x := x2.toInt) rfl (by have t1 : 0 ≤ x2.toInt := ob132; omega) (by have t1 : 0 ≤ x2.toInt := ob132; have t2 : x2.toInt ≤ 9 := ob133; have e9 : (((10 : Int32).toNatClampNeg : Nat) : Int) = 10 := (by decide); omega)) d_15_8_109 (fun H locs w145 hu146 hO123 V => ?_)
          replace hI := n_ai' hI (n_r139 g q).1 hu146 hO123 (q_updB (fun _ => s_bnd) s_bnd)
          replace hO119 := (hu146 _ (by decide)).trans hO119
          replace hO120 := (hu146 _ (by decide)).trans hO120
          replace hO121 := (hu146 _ (by decide)).trans hO121
          replace hO122 := (hu146 _ (by decide)).trans hO122
          replace hO124 := (hu146 _ (by decide)).trans hO124
          replace hF := q_us hF hu146 (by simp)
          obtain ⟨f147, e148⟩ := q_nm (upd t4_0 x2.toNatClampNeg a142 : (Nat → Int32))
          rw [e148] at hO123
          exact q_retv C0 V (⟨hI, hF, y36, y37, y38, y39, y40, y41, y42, y43, y44, y45, y46, lx114, f136, f140, f147, f47, hO119, hO120, hO121, hO122, hO123, hO124, (show 0 ≤ y41.toInt from (by have t1 : 0 ≤ y41.toInt := b49; omega)), (show t0_1.toInt ≤ y37.toInt from (by have t1 : t0_1.toInt ≤ y37.toInt := b52; omega)), (show y37.toInt ≤ t0_1.toInt from (by have t1 : y37.toInt ≤ t0_1.toInt := b53; omega)), (show t0_2.toInt ≤ y37.toInt + 24400 from (by have t1 : t0_2.toInt ≤ y37.toInt + 24400 := b54; omega)), (show t0_3.toInt ≤ y39.toInt from (by have t1 : t0_3.toInt ≤ y39.toInt := b55; omega)), (show y39.toInt ≤ t0_3.toInt from (by have t1 : y39.toInt ≤ t0_3.toInt := b56; omega)), (show t0_2.toInt ≤ y40.toInt + 24400 from (by have t1 : t0_2.toInt ≤ y40.toInt + 24400 := b57; omega)), (show t0_4.toInt ≤ y40.toInt from (by have t1 : t0_4.toInt ≤ y40.toInt := b58; omega)), (show y40.toInt ≤ t0_4.toInt from (by have t1 : y40.toInt ≤ t0_4.toInt := b59; omega)), (show t0_2.toInt ≤ y41.toInt + 24400 from (by have t1 : t0_2.toInt ≤ y41.toInt + 24400 := b60; omega)), (show y41.toInt ≤ t0_5.toInt from (by have t1 : y41.toInt ≤ t0_5.toInt := b61; omega)), (show t0_6.toInt ≤ y42.toInt from (by have t1 : t0_6.toInt ≤ y42.toInt := b62; omega)), (show y42.toInt ≤ t0_6.toInt from (by have t1 : y42.toInt ≤ t0_6.toInt := b63; omega)), (show t0_7.toInt ≤ y43.toInt from (by have t1 : t0_7.toInt ≤ y43.toInt := b64; omega)), (show y43.toInt ≤ t0_7.toInt from (by have t1 : y43.toInt ≤ t0_7.toInt := b65; omega)), (show t0_8.toInt ≤ y44.toInt from (by have t1 : t0_8.toInt ≤ y44.toInt := b66; omega)), (show y44.toInt ≤ t0_8.toInt from (by have t1 : y44.toInt ≤ t0_8.toInt := b67; omega)), (show t0_2.toInt ≤ y45.toInt + 24400 from (by have t1 : t0_2.toInt ≤ y45.toInt + 24400 := b68; omega)), (show t0_9.toInt ≤ y45.toInt from (by have t1 : t0_9.toInt ≤ y45.toInt := b69; omega)), (show y45.toInt ≤ t0_9.toInt from (by have t1 : y45.toInt ≤ t0_9.toInt := b70; omega)), (show t0_10.toInt ≤ y46.toInt from (by have t1 : t0_10.toInt ≤ y46.toInt := b71; omega)), (show y46.toInt ≤ t0_10.toInt from (by have t1 : y46.toInt ≤ t0_10.toInt := b72; omega)), (show (y36, y37, y38, y39, y40, y41, y42, y43, y44, y45, y46, lx114, f136, f140, f147, f47) = (F_DR_store x2 t0_0 t0_1 t0_2 t0_3 t0_4 t0_5 t0_6 t0_7 t0_8 t0_9 t0_10 t1_0 t2_0 t3_0 t4_0 t5_0) from Eq.trans (by rw [← e148, ← e143, ← e141, ← e137, F_DR_store_L47.eq_2, if_pos c130]) hR125)⟩) d_15_8_110
        ·
          have b149 : q_F (lx113.toInt < y38.toInt) := (q_nleI c130)
          refine lv_aload_n hx hb d_15_8_55 rfl (lv_at hl 1 rfl) ?_
          refine q_get (ci := 14) (j := 3) (v := .ref (q 136)) C0 V i_DR rfl rfl hO119 (by decide) w_2002 rfl d_15_8_56 ?_
          refine lv_sipush (v := 1000) hx hb d_15_8_59 (by decide) ?_
          refine lv_iload_n hx hb d_15_8_62 rfl (lv_at hl 2 rfl) ?_
          refine lv_imul hx hb d_15_8_63 ?_
          obtain ⟨a150, e151⟩ := q_nm (1000 * x2 : Int32)
          refine q_ti (v := a150) e151 ?_
          refine lv_iload_n hx hb d_15_8_64 rfl (lv_at hl 0 rfl) ?_
          refine lv_iadd hx hb d_15_8_65 ?_
          obtain ⟨a152, e153⟩ := q_nm (a150 + lx113 : Int32)
          refine q_ti (v := a152) e153 ?_
          refine lv_aload_n hx hb d_15_8_66 rfl (lv_at hl 1 rfl) ?_
          refine q_get (ci := 14) (j := 7) (v := .ref (q 140)) C0 V i_DR rfl rfl hO119 (by decide) w_2010 rfl d_15_8_67 ?_
          refine lv_iload_n hx hb d_15_8_70 rfl (lv_at hl 0 rfl) ?_
          refine q_iald C0 V hO124 (q_ix (x := lx113.toInt) rfl (by have t1 : 0 ≤ lx113.toInt := i115; omega) (by have t1 : 0 ≤ lx113.toInt := i115; have t2 : lx113.toInt ≤ 1000 := i116; have e9 : (((4400 : Int32).toNatClampNeg : Nat) : Int) = 4400 := (by decide); omega)) d_15_8_71 ?_
          obtain ⟨a154, e155⟩ := q_nm (f47 lx113.toNatClampNeg : Int32)
          refine q_ti (v := a154) e155 ?_
          have ob156 : q_F (0 ≤ a152.toInt) := (by rw [← e153, ← e151]; have h := hS126; rw [S_DR_store_L47.eq_2] at h; rw [if_neg c130] at h; exact h.2.1)
          have ob157 : q_F (a152.toInt ≤ 9999) := (by rw [← e153, ← e151]; have h := hS126; rw [S_DR_store_L47.eq_2] at h; rw [if_neg c130] at h; replace h := q_s2 h; exact h.2.1)
          refine q_iast C0 V hO120 (q_ix (x := a152.toInt) rfl (by have t1 : 0 ≤ a152.toInt := ob156; omega) (by have t1 : 0 ≤ a152.toInt := ob156; have t2 : a152.toInt ≤ 9999 := ob157; have e9 : (((10000 : Int32).toNatClampNeg : Nat) : Int) = 10000 := (by decide); omega)) d_15_8_72 (fun H locs w158 hu159 hO120 V => ?_)
          replace hI := n_ai' hI (n_r136 g q).1 hu159 hO120 (q_updB (fun _ => s_bnd) s_bnd)
          replace hO119 := (hu159 _ (by decide)).trans hO119
          replace hO121 := (hu159 _ (by decide)).trans hO121
          replace hO122 := (hu159 _ (by decide)).trans hO122
          replace hO123 := (hu159 _ (by decide)).trans hO123
          replace hO124 := (hu159 _ (by decide)).trans hO124
          replace hF := q_us hF hu159 (by simp)
          obtain ⟨f160, e161⟩ := q_nm (upd lx114 a152.toNatClampNeg a154 : (Nat → Int32))
          rw [e161] at hO120
          obtain ⟨a162, e163⟩ := q_nm (lx113 + 1 : Int32)
          have b164 : q_F (a162.toInt = lx113.toInt + 1) := (by rw [← e163]; exact q_addI (y := 1) rfl (by decide) (by have t1 : 0 ≤ lx113.toInt := i115; have t2 : lx113.toInt ≤ 1000 := i116; omega) (by have t1 : 0 ≤ lx113.toInt := i115; have t2 : lx113.toInt ≤ 1000 := i116; omega))
          refine lv_iinc (v := a162) (lv' := [(2, .int a162), (0, .ref (q 134)), (1, .int x2)]) hx hb d_15_8_73 hl (k := 0) rfl (e163) (by decide) rfl (fun ls hl => ?_)
          refine lv_goto (tgt := 47) hx hb d_15_8_76 (by decide) ?_
          exact ih117 ((a162 : Int32), (f160 : (Nat → Int32))) _ _ _ _ (show (1000 - a162.toInt).toNat < (1000 - lx113.toInt).toNat from by have t1 : a162.toInt = lx113.toInt + 1 := b164; have t2 : lx113.toInt ≤ 1000 := i116; have t3 : y38.toInt ≤ 1000 := b98; have t4 : lx113.toInt < y38.toInt := b149; omega) ⟨(show q_F (0 ≤ a162.toInt) from (show 0 ≤ a162.toInt from by have t1 : 0 ≤ lx113.toInt := i115; have t2 : a162.toInt = lx113.toInt + 1 := b164; omega)), (show q_F (a162.toInt ≤ 1000) from (show a162.toInt ≤ 1000 from by have t1 : y38.toInt ≤ 1000 := b98; have t2 : lx113.toInt < y38.toInt := b149; have t3 : a162.toInt = lx113.toInt + 1 := b164; omega)), V, q_lw hl (q_lw1 0 rfl (q_lw1 1 rfl (q_lw1 2 rfl q_lw0))), hI, hF, hO119, hO120, hO121, hO122, hO123, hO124, ⟨fm129, Nat.lt_of_lt_of_le (show (1000 - a162.toInt).toNat < (1000 - lx113.toInt).toNat from by have t1 : a162.toInt = lx113.toInt + 1 := b164; have t2 : lx113.toInt ≤ 1000 := i116; have t3 : y38.toInt ≤ 1000 := b98; have t4 : lx113.toInt < y38.toInt := b149; omega) (Nat.le_of_lt_succ hf128), (show F_DR_store_L47 x2 t0_0 t0_1 t0_2 t0_3 t0_4 t0_5 t0_6 t0_7 t0_8 t0_9 t0_10 t1_0 t2_0 t3_0 t4_0 t5_0 p75 y36 y37 y38 y39 y40 y41 y42 y43 y44 y45 y46 f47 fm129 a162 f160 = (F_DR_store x2 t0_0 t0_1 t0_2 t0_3 t0_4 t0_5 t0_6 t0_7 t0_8 t0_9 t0_10 t1_0 t2_0 t3_0 t4_0 t5_0) from Eq.trans (by rw [← e163, ← e161, ← e155, ← e153, ← e151, F_DR_store_L47.eq_2, if_neg c130]) hR125), (show True ∧ S_DR_store_L47 x2 t0_0 t0_1 t0_2 t0_3 t0_4 t0_5 t0_6 t0_7 t0_8 t0_9 t0_10 t1_0 t2_0 t3_0 t4_0 t5_0 p75 y36 y37 y38 y39 y40 y41 y42 y43 y44 y45 y46 f47 fm129 a162 f160 from (by rw [← e163, ← e161, ← e155, ← e153, ← e151]; have h := hS126; rw [S_DR_store_L47.eq_2] at h; rw [if_neg c130] at h; replace h := q_s2 h; replace h := q_s2 h; with_reducible exact h))⟩⟩
      ·
        have b165 : q_F (0 < a107.toInt) := (q_nleI c110)
        refine lv_aload_n hx hb d_15_8_36 rfl (lv_at hl 0 rfl) ?_
        refine lv_aload_n hx hb d_15_8_37 rfl (lv_at hl 0 rfl) ?_
        refine q_get (ci := 14) (j := 20) (v := .int y46) C0 V i_DR rfl rfl hO35 (by decide) w_2024 rfl d_15_8_38 ?_
        refine q_put (ci := 14) (j := 0) (v := .int y46) (ty := .int) C0 V i_DR o_DR n_DR rfl rfl hO35 (by decide) w_1996 rfl rfl rfl rfl (Nat.le_of_ble_eq_true rfl) d_15_8_41 (fun H locs w166 hu167 hO35 V => ?_)
        replace hO35 : w166[134]? = (some (q 134, .inr (14, [.int y46, .ref (q 135), .int y37, .ref (q 136), .ref (q 137), .ref (q 138), .ref (q 139), .ref (q 140), .int y38, .long y39, .int y40, .int y41, .ref (q 141), .int y42, .ref (q 142), .int y43, .ref (q 143), .int y44, .ref (q 144), .int y45, .int y46])) : Option (Nat × va_E)) := hO35
        replace hI := n_p134 hI hu167 hO35 ⟨(by have t1 : 0 ≤ t0_1.toInt ∧ t0_1.toInt ≤ 4100 := btt0_1; have t2 : t0_1.toInt ≤ y37.toInt := b52; omega), (by have t1 : 0 ≤ t0_1.toInt ∧ t0_1.toInt ≤ 4100 := btt0_1; have t2 : y37.toInt ≤ t0_1.toInt := b53; omega)⟩ ⟨(by have t1 : 0 ≤ t0_4.toInt ∧ t0_4.toInt ≤ 1 := btt0_4; have t2 : t0_4.toInt ≤ y40.toInt := b58; omega), (by have t1 : 0 ≤ t0_4.toInt ∧ t0_4.toInt ≤ 1 := btt0_4; have t2 : y40.toInt ≤ t0_4.toInt := b59; omega)⟩ ⟨(by have t1 : 0 ≤ y41.toInt := b49; omega), (by have t1 : 0 ≤ t0_5.toInt ∧ t0_5.toInt ≤ 1 := btt0_5; have t2 : y41.toInt ≤ t0_5.toInt := b61; omega)⟩ ⟨(by have t1 : 0 ≤ t0_9.toInt ∧ t0_9.toInt ≤ 12200 := btt0_9; have t2 : t0_9.toInt ≤ y45.toInt := b69; omega), (by have t1 : 0 ≤ t0_9.toInt ∧ t0_9.toInt ≤ 12200 := btt0_9; have t2 : y45.toInt ≤ t0_9.toInt := b70; omega)⟩
        replace hT1 := (hu167 _ (by decide)).trans hT1
        replace hT2 := (hu167 _ (by decide)).trans hT2
        replace hT3 := (hu167 _ (by decide)).trans hT3
        replace hT4 := (hu167 _ (by decide)).trans hT4
        replace hA48 := (hu167 _ (by decide)).trans hA48
        replace hF := q_us hF hu167 (by simp)
        exact q_retv C0 V (⟨hI, hF, y46, y37, y38, y39, y40, y41, y42, y43, y44, y45, y46, t1_0, t2_0, t3_0, t4_0, f47, hO35, hT1, hT2, hT3, hT4, hA48, (show 0 ≤ y41.toInt from (by have t1 : 0 ≤ y41.toInt := b49; omega)), (show t0_1.toInt ≤ y37.toInt from (by have t1 : t0_1.toInt ≤ y37.toInt := b52; omega)), (show y37.toInt ≤ t0_1.toInt from (by have t1 : y37.toInt ≤ t0_1.toInt := b53; omega)), (show t0_2.toInt ≤ y37.toInt + 24400 from (by have t1 : t0_2.toInt ≤ y37.toInt + 24400 := b54; omega)), (show t0_3.toInt ≤ y39.toInt from (by have t1 : t0_3.toInt ≤ y39.toInt := b55; omega)), (show y39.toInt ≤ t0_3.toInt from (by have t1 : y39.toInt ≤ t0_3.toInt := b56; omega)), (show t0_2.toInt ≤ y40.toInt + 24400 from (by have t1 : t0_2.toInt ≤ y40.toInt + 24400 := b57; omega)), (show t0_4.toInt ≤ y40.toInt from (by have t1 : t0_4.toInt ≤ y40.toInt := b58; omega)), (show y40.toInt ≤ t0_4.toInt from (by have t1 : y40.toInt ≤ t0_4.toInt := b59; omega)), (show t0_2.toInt ≤ y41.toInt + 24400 from (by have t1 : t0_2.toInt ≤ y41.toInt + 24400 := b60; omega)), (show y41.toInt ≤ t0_5.toInt from (by have t1 : y41.toInt ≤ t0_5.toInt := b61; omega)), (show t0_6.toInt ≤ y42.toInt from (by have t1 : t0_6.toInt ≤ y42.toInt := b62; omega)), (show y42.toInt ≤ t0_6.toInt from (by have t1 : y42.toInt ≤ t0_6.toInt := b63; omega)), (show t0_7.toInt ≤ y43.toInt from (by have t1 : t0_7.toInt ≤ y43.toInt := b64; omega)), (show y43.toInt ≤ t0_7.toInt from (by have t1 : y43.toInt ≤ t0_7.toInt := b65; omega)), (show t0_8.toInt ≤ y44.toInt from (by have t1 : t0_8.toInt ≤ y44.toInt := b66; omega)), (show y44.toInt ≤ t0_8.toInt from (by have t1 : y44.toInt ≤ t0_8.toInt := b67; omega)), (show t0_2.toInt ≤ y45.toInt + 24400 from (by have t1 : t0_2.toInt ≤ y45.toInt + 24400 := b68; omega)), (show t0_9.toInt ≤ y45.toInt from (by have t1 : t0_9.toInt ≤ y45.toInt := b69; omega)), (show y45.toInt ≤ t0_9.toInt from (by have t1 : y45.toInt ≤ t0_9.toInt := b70; omega)), (show t0_10.toInt ≤ y46.toInt from (by have t1 : t0_10.toInt ≤ y46.toInt := b71; omega)), (show y46.toInt ≤ t0_10.toInt from (by have t1 : y46.toInt ≤ t0_10.toInt := b72; omega)), (show (y46, y37, y38, y39, y40, y41, y42, y43, y44, y45, y46, t1_0, t2_0, t3_0, t4_0, f47) = (F_DR_store x2 t0_0 t0_1 t0_2 t0_3 t0_4 t0_5 t0_6 t0_7 t0_8 t0_9 t0_10 t1_0 t2_0 t3_0 t4_0 t5_0) from Eq.trans (by have c94x := c94; rw [e79] at c94x; have c102x := c102; rw [← e100, e80] at c102x; have c110x := c110; rw [← e108, e80] at c110x; rw [e88, e87, e86, e85, e84, e83, e82, e81, e80, e79, e78, F_DR_store_c1.eq_1, if_neg c94x, if_neg c102x, if_neg c110x]) hR89)⟩) d_15_8_44
