-- ===== PART A: goes FIRST, ahead of the names: the tables' words, and 'selects' of the private methods out of them =====
theorem tm_1 {w : Cond} (i : Nat) (h : tables_1_1[i]? = some w) : w ∈ tables_1 := List.mem_append_left _ (List.mem_of_getElem? h)
theorem tm_2 {w : Cond} (i : Nat) (h : tables_1_2[i]? = some w) : w ∈ tables_1 := List.mem_append_right _ (List.mem_append_left _ (List.mem_of_getElem? h))
theorem tm_3 {w : Cond} (i : Nat) (h : tables_1_3[i]? = some w) : w ∈ tables_1 := List.mem_append_right _ (List.mem_append_right _ (List.mem_append_left _ (List.mem_of_getElem? h)))
theorem tm_4 {w : Cond} (i : Nat) (h : tables_1_4[i]? = some w) : w ∈ tables_1 := List.mem_append_right _ (List.mem_append_right _ (List.mem_append_right _ (List.mem_append_left _ (List.mem_of_getElem? h))))
theorem tm_5 {w : Cond} (i : Nat) (h : tables_1_5[i]? = some w) : w ∈ tables_1 := List.mem_append_right _ (List.mem_append_right _ (List.mem_append_right _ (List.mem_append_right _ (List.mem_append_left _ (List.mem_of_getElem? h)))))
theorem tm_6 {w : Cond} (i : Nat) (h : tables_1_6[i]? = some w) : w ∈ tables_1 := List.mem_append_right _ (List.mem_append_right _ (List.mem_append_right _ (List.mem_append_right _ (List.mem_append_right _ (List.mem_append_left _ (List.mem_of_getElem? h))))))
theorem tm_7 {w : Cond} (i : Nat) (h : tables_1_7[i]? = some w) : w ∈ tables_1 := List.mem_append_right _ (List.mem_append_right _ (List.mem_append_right _ (List.mem_append_right _ (List.mem_append_right _ (List.mem_append_right _ (List.mem_append_left _ (List.mem_of_getElem? h)))))))
theorem tm_8 {w : Cond} (i : Nat) (h : tables_1_8[i]? = some w) : w ∈ tables_1 := List.mem_append_right _ (List.mem_append_right _ (List.mem_append_right _ (List.mem_append_right _ (List.mem_append_right _ (List.mem_append_right _ (List.mem_append_right _ (List.mem_append_left _ (List.mem_of_getElem? h))))))))
theorem tm_9 {w : Cond} (i : Nat) (h : tables_1_9[i]? = some w) : w ∈ tables_1 := List.mem_append_right _ (List.mem_append_right _ (List.mem_append_right _ (List.mem_append_right _ (List.mem_append_right _ (List.mem_append_right _ (List.mem_append_right _ (List.mem_append_right _ (List.mem_append_left _ (List.mem_of_getElem? h)))))))))
theorem tm_10 {w : Cond} (i : Nat) (h : tables_1_10[i]? = some w) : w ∈ tables_1 := List.mem_append_right _ (List.mem_append_right _ (List.mem_append_right _ (List.mem_append_right _ (List.mem_append_right _ (List.mem_append_right _ (List.mem_append_right _ (List.mem_append_right _ (List.mem_append_right _ (List.mem_append_left _ (List.mem_of_getElem? h))))))))))
theorem tm_11 {w : Cond} (i : Nat) (h : tables_1_11[i]? = some w) : w ∈ tables_1 := List.mem_append_right _ (List.mem_append_right _ (List.mem_append_right _ (List.mem_append_right _ (List.mem_append_right _ (List.mem_append_right _ (List.mem_append_right _ (List.mem_append_right _ (List.mem_append_right _ (List.mem_append_right _ (List.mem_append_left _ (List.mem_of_getElem? h)))))))))))
theorem tm_12 {w : Cond} (i : Nat) (h : tables_1_12[i]? = some w) : w ∈ tables_1 := List.mem_append_right _ (List.mem_append_right _ (List.mem_append_right _ (List.mem_append_right _ (List.mem_append_right _ (List.mem_append_right _ (List.mem_append_right _ (List.mem_append_right _ (List.mem_append_right _ (List.mem_append_right _ (List.mem_append_right _ (List.mem_append_left _ (List.mem_of_getElem? h))))))))))))
theorem tm_13 {w : Cond} (i : Nat) (h : tables_1_13[i]? = some w) : w ∈ tables_1 := List.mem_append_right _ (List.mem_append_right _ (List.mem_append_right _ (List.mem_append_right _ (List.mem_append_right _ (List.mem_append_right _ (List.mem_append_right _ (List.mem_append_right _ (List.mem_append_right _ (List.mem_append_right _ (List.mem_append_right _ (List.mem_append_right _ (List.mem_append_left _ (List.mem_of_getElem? h)))))))))))))
theorem tm_14 {w : Cond} (i : Nat) (h : tables_1_14[i]? = some w) : w ∈ tables_1 := List.mem_append_right _ (List.mem_append_right _ (List.mem_append_right _ (List.mem_append_right _ (List.mem_append_right _ (List.mem_append_right _ (List.mem_append_right _ (List.mem_append_right _ (List.mem_append_right _ (List.mem_append_right _ (List.mem_append_right _ (List.mem_append_right _ (List.mem_append_right _ (List.mem_of_getElem? h)))))))))))))
/-- a private method of a class that the tables say can be made, by its rows of tables_1 -/
def lw_okq (q : MethodName × Nat) : Prop := (q.1.cls ≠ "java/lang/invoke/MethodHandle" ∧ q.1.cls ≠ "java/lang/invoke/VarHandle") ∧ Cond.instantiable q.1.cls q.2 ∈ tables_1 ∧ Cond.privateMethod q.1 ∈ tables_1 ∧ Cond.instanceMethod q.1 ∈ tables_1
set_option maxRecDepth 100000 in
theorem lw_p0 : lw_okq (⟨"java/lang/Throwable", "fillInStackTrace", "(I)Ljava/lang/Throwable;"⟩, 6) := ⟨⟨by decide +kernel, by decide +kernel⟩, tm_3 53 rfl, tm_3 51 rfl, tm_3 52 rfl⟩
set_option maxRecDepth 100000 in
theorem lw_p1 : lw_okq (⟨"NumberHouse$Reader", "begin", "()V"⟩, 12) := ⟨⟨by decide +kernel, by decide +kernel⟩, tm_2 39 rfl, tm_3 106 rfl, tm_3 107 rfl⟩
set_option maxRecDepth 100000 in
theorem lw_p2 : lw_okq (⟨"NumberHouse$Reader", "takeSign", "()V"⟩, 12) := ⟨⟨by decide +kernel, by decide +kernel⟩, tm_2 39 rfl, tm_3 110 rfl, tm_3 111 rfl⟩
set_option maxRecDepth 100000 in
theorem lw_p3 : lw_okq (⟨"NumberHouse$Reader", "here", "()I"⟩, 12) := ⟨⟨by decide +kernel, by decide +kernel⟩, tm_2 39 rfl, tm_3 114 rfl, tm_3 115 rfl⟩
set_option maxRecDepth 100000 in
theorem lw_p4 : lw_okq (⟨"NumberHouse$Reader", "digitHere", "()I"⟩, 12) := ⟨⟨by decide +kernel, by decide +kernel⟩, tm_2 39 rfl, tm_3 120 rfl, tm_3 121 rfl⟩
set_option maxRecDepth 100000 in
theorem lw_p5 : lw_okq (⟨"NumberHouse$Reader", "takeFigures", "(II)Z"⟩, 12) := ⟨⟨by decide +kernel, by decide +kernel⟩, tm_2 39 rfl, tm_3 145 rfl, tm_3 146 rfl⟩
set_option maxRecDepth 100000 in
theorem lw_p6 : lw_okq (⟨"NumberHouse$Reader", "keepFigure", "(III)V"⟩, 12) := ⟨⟨by decide +kernel, by decide +kernel⟩, tm_2 39 rfl, tm_3 149 rfl, tm_3 150 rfl⟩
set_option maxRecDepth 100000 in
theorem lw_p7 : lw_okq (⟨"NumberHouse$Reader", "takeExponent", "(I)Z"⟩, 12) := ⟨⟨by decide +kernel, by decide +kernel⟩, tm_2 39 rfl, tm_3 153 rfl, tm_3 154 rfl⟩
set_option maxRecDepth 100000 in
theorem lw_p8 : lw_okq (⟨"NumberHouse", "floatsOf", "(I)LNumberHouse$Floats;"⟩, 14) := ⟨⟨by decide +kernel, by decide +kernel⟩, tm_1 39 rfl, tm_3 159 rfl, tm_3 160 rfl⟩
set_option maxRecDepth 100000 in
theorem lw_p9 : lw_okq (⟨"NumberHouse$Reader", "trimBlanks", "()V"⟩, 12) := ⟨⟨by decide +kernel, by decide +kernel⟩, tm_2 39 rfl, tm_3 167 rfl, tm_3 168 rfl⟩
set_option maxRecDepth 100000 in
theorem lw_p10 : lw_okq (⟨"NumberHouse$Reader", "saysRest", "(Ljava/lang/String;)Z"⟩, 12) := ⟨⟨by decide +kernel, by decide +kernel⟩, tm_2 39 rfl, tm_3 172 rfl, tm_3 173 rfl⟩
set_option maxRecDepth 100000 in
theorem lw_p11 : lw_okq (⟨"NumberHouse$Reader", "takeHexadecimalMark", "()Z"⟩, 12) := ⟨⟨by decide +kernel, by decide +kernel⟩, tm_2 39 rfl, tm_3 238 rfl, tm_3 239 rfl⟩
set_option maxRecDepth 100000 in
theorem lw_p12 : lw_okq (⟨"NumberHouse$Reader", "takeHexadecimal", "()Z"⟩, 12) := ⟨⟨by decide +kernel, by decide +kernel⟩, tm_2 39 rfl, tm_4 2 rfl, tm_4 3 rfl⟩
set_option maxRecDepth 100000 in
theorem lw_p13 : lw_okq (⟨"NumberHouse$Reader", "takeDecimal", "()Z"⟩, 12) := ⟨⟨by decide +kernel, by decide +kernel⟩, tm_2 39 rfl, tm_4 6 rfl, tm_4 7 rfl⟩
set_option maxRecDepth 100000 in
theorem lw_p14 : lw_okq (⟨"NumberHouse$Reader", "takeEnding", "()Z"⟩, 12) := ⟨⟨by decide +kernel, by decide +kernel⟩, tm_2 39 rfl, tm_4 10 rfl, tm_4 11 rfl⟩
set_option maxRecDepth 100000 in
theorem lw_p15 : lw_okq (⟨"NumberHouse$Big", "divideByLimb", "(ILNumberHouse$Big;)V"⟩, 3) := ⟨⟨by decide +kernel, by decide +kernel⟩, tm_1 79 rfl, tm_5 75 rfl, tm_5 76 rfl⟩
def lw_privs_1 : List (MethodName × Nat) := [(⟨"java/lang/Throwable", "fillInStackTrace", "(I)Ljava/lang/Throwable;"⟩, 6), (⟨"NumberHouse$Reader", "begin", "()V"⟩, 12), (⟨"NumberHouse$Reader", "takeSign", "()V"⟩, 12), (⟨"NumberHouse$Reader", "here", "()I"⟩, 12), (⟨"NumberHouse$Reader", "digitHere", "()I"⟩, 12), (⟨"NumberHouse$Reader", "takeFigures", "(II)Z"⟩, 12), (⟨"NumberHouse$Reader", "keepFigure", "(III)V"⟩, 12), (⟨"NumberHouse$Reader", "takeExponent", "(I)Z"⟩, 12), (⟨"NumberHouse", "floatsOf", "(I)LNumberHouse$Floats;"⟩, 14), (⟨"NumberHouse$Reader", "trimBlanks", "()V"⟩, 12), (⟨"NumberHouse$Reader", "saysRest", "(Ljava/lang/String;)Z"⟩, 12), (⟨"NumberHouse$Reader", "takeHexadecimalMark", "()Z"⟩, 12), (⟨"NumberHouse$Reader", "takeHexadecimal", "()Z"⟩, 12), (⟨"NumberHouse$Reader", "takeDecimal", "()Z"⟩, 12), (⟨"NumberHouse$Reader", "takeEnding", "()Z"⟩, 12), (⟨"NumberHouse$Big", "divideByLimb", "(ILNumberHouse$Big;)V"⟩, 3)]
theorem lw_r1 : ∀ q ∈ lw_privs_1, lw_okq q := List.forall_mem_cons.mpr ⟨lw_p0, List.forall_mem_cons.mpr ⟨lw_p1, List.forall_mem_cons.mpr ⟨lw_p2, List.forall_mem_cons.mpr ⟨lw_p3, List.forall_mem_cons.mpr ⟨lw_p4, List.forall_mem_cons.mpr ⟨lw_p5, List.forall_mem_cons.mpr ⟨lw_p6, List.forall_mem_cons.mpr ⟨lw_p7, List.forall_mem_cons.mpr ⟨lw_p8, List.forall_mem_cons.mpr ⟨lw_p9, List.forall_mem_cons.mpr ⟨lw_p10, List.forall_mem_cons.mpr ⟨lw_p11, List.forall_mem_cons.mpr ⟨lw_p12, List.forall_mem_cons.mpr ⟨lw_p13, List.forall_mem_cons.mpr ⟨lw_p14, List.forall_mem_cons.mpr ⟨lw_p15, fun _ h => absurd h List.not_mem_nil⟩⟩⟩⟩⟩⟩⟩⟩⟩⟩⟩⟩⟩⟩⟩⟩
set_option maxRecDepth 100000 in
theorem lw_p16 : lw_okq (⟨"NumberHouse$Big", "takeTimes", "(ILNumberHouse$Big;)I"⟩, 3) := ⟨⟨by decide +kernel, by decide +kernel⟩, tm_1 79 rfl, tm_5 87 rfl, tm_5 88 rfl⟩
set_option maxRecDepth 100000 in
theorem lw_p17 : lw_okq (⟨"NumberHouse$Big", "guess", "(ILNumberHouse$Big;)J"⟩, 3) := ⟨⟨by decide +kernel, by decide +kernel⟩, tm_1 79 rfl, tm_5 91 rfl, tm_5 92 rfl⟩
set_option maxRecDepth 100000 in
theorem lw_p18 : lw_okq (⟨"NumberHouse$Big", "giveBack", "(ILNumberHouse$Big;)V"⟩, 3) := ⟨⟨by decide +kernel, by decide +kernel⟩, tm_1 79 rfl, tm_5 96 rfl, tm_5 97 rfl⟩
set_option maxRecDepth 100000 in
theorem lw_p19 : lw_okq (⟨"NumberHouse", "floatRow", "(I)[J"⟩, 14) := ⟨⟨by decide +kernel, by decide +kernel⟩, tm_1 39 rfl, tm_5 133 rfl, tm_5 134 rfl⟩
set_option maxRecDepth 100000 in
theorem lw_p20 : lw_okq (⟨"NumberHouse", "tellWhole", "(LNumberHouse$Big;I)J"⟩, 14) := ⟨⟨by decide +kernel, by decide +kernel⟩, tm_1 39 rfl, tm_5 152 rfl, tm_5 153 rfl⟩
set_option maxRecDepth 100000 in
theorem lw_p21 : lw_okq (⟨"NumberHouse", "tellDecimal", "(LNumberHouse$Dec;I)J"⟩, 14) := ⟨⟨by decide +kernel, by decide +kernel⟩, tm_1 39 rfl, tm_5 175 rfl, tm_5 176 rfl⟩
set_option maxRecDepth 100000 in
theorem lw_p22 : lw_okq (⟨"NumberHouse$Digits", "turn", "(I)V"⟩, 3) := ⟨⟨by decide +kernel, by decide +kernel⟩, tm_2 19 rfl, tm_5 185 rfl, tm_5 186 rfl⟩
set_option maxRecDepth 100000 in
theorem lw_p23 : lw_okq (⟨"NumberHouse$Floats", "prepare", "(J)V"⟩, 7) := ⟨⟨by decide +kernel, by decide +kernel⟩, tm_1 226 rfl, tm_5 213 rfl, tm_5 214 rfl⟩
set_option maxRecDepth 100000 in
theorem lw_p24 : lw_okq (⟨"NumberHouse$Floats", "nextFigure", "()I"⟩, 7) := ⟨⟨by decide +kernel, by decide +kernel⟩, tm_1 226 rfl, tm_5 236 rfl, tm_5 237 rfl⟩
set_option maxRecDepth 100000 in
theorem lw_p25 : lw_okq (⟨"NumberHouse$Floats", "chooseEnd", "(ZZI)V"⟩, 7) := ⟨⟨by decide +kernel, by decide +kernel⟩, tm_1 226 rfl, tm_6 8 rfl, tm_6 9 rfl⟩
set_option maxRecDepth 100000 in
theorem lw_p26 : lw_okq (⟨"NumberHouse", "keepWhole", "(I)V"⟩, 14) := ⟨⟨by decide +kernel, by decide +kernel⟩, tm_1 39 rfl, tm_6 117 rfl, tm_6 118 rfl⟩
set_option maxRecDepth 100000 in
theorem lw_p27 : lw_okq (⟨"NumberHouse$DecimalWork", "raiseBelow", "(ILNumberHouse$Big;)V"⟩, 4) := ⟨⟨by decide +kernel, by decide +kernel⟩, tm_1 157 rfl, tm_6 186 rfl, tm_6 187 rfl⟩
set_option maxRecDepth 100000 in
theorem lw_p28 : lw_okq (⟨"NumberHouse", "keepDecimal", "(I)V"⟩, 14) := ⟨⟨by decide +kernel, by decide +kernel⟩, tm_1 39 rfl, tm_6 192 rfl, tm_6 193 rfl⟩
set_option maxRecDepth 100000 in
theorem lw_p29 : lw_okq (⟨"NumberHouse$DecimalWork", "divideRaised", "(LNumberHouse$Dec;LNumberHouse$Dec;I)V"⟩, 4) := ⟨⟨by decide +kernel, by decide +kernel⟩, tm_1 157 rfl, tm_7 0 rfl, tm_7 1 rfl⟩
set_option maxRecDepth 100000 in
theorem lw_p30 : lw_okq (⟨"NumberHouse$DecimalWork", "roundLast", "(ZI)Z"⟩, 4) := ⟨⟨by decide +kernel, by decide +kernel⟩, tm_1 157 rfl, tm_7 8 rfl, tm_7 9 rfl⟩
set_option maxRecDepth 100000 in
theorem lw_p31 : lw_okq (⟨"NumberHouse$DecimalWork", "goesOutwards", "(IZI)Z"⟩, 4) := ⟨⟨by decide +kernel, by decide +kernel⟩, tm_1 157 rfl, tm_7 13 rfl, tm_7 14 rfl⟩
def lw_privs_2 : List (MethodName × Nat) := [(⟨"NumberHouse$Big", "takeTimes", "(ILNumberHouse$Big;)I"⟩, 3), (⟨"NumberHouse$Big", "guess", "(ILNumberHouse$Big;)J"⟩, 3), (⟨"NumberHouse$Big", "giveBack", "(ILNumberHouse$Big;)V"⟩, 3), (⟨"NumberHouse", "floatRow", "(I)[J"⟩, 14), (⟨"NumberHouse", "tellWhole", "(LNumberHouse$Big;I)J"⟩, 14), (⟨"NumberHouse", "tellDecimal", "(LNumberHouse$Dec;I)J"⟩, 14), (⟨"NumberHouse$Digits", "turn", "(I)V"⟩, 3), (⟨"NumberHouse$Floats", "prepare", "(J)V"⟩, 7), (⟨"NumberHouse$Floats", "nextFigure", "()I"⟩, 7), (⟨"NumberHouse$Floats", "chooseEnd", "(ZZI)V"⟩, 7), (⟨"NumberHouse", "keepWhole", "(I)V"⟩, 14), (⟨"NumberHouse$DecimalWork", "raiseBelow", "(ILNumberHouse$Big;)V"⟩, 4), (⟨"NumberHouse", "keepDecimal", "(I)V"⟩, 14), (⟨"NumberHouse$DecimalWork", "divideRaised", "(LNumberHouse$Dec;LNumberHouse$Dec;I)V"⟩, 4), (⟨"NumberHouse$DecimalWork", "roundLast", "(ZI)Z"⟩, 4), (⟨"NumberHouse$DecimalWork", "goesOutwards", "(IZI)Z"⟩, 4)]
theorem lw_r2 : ∀ q ∈ lw_privs_2, lw_okq q := List.forall_mem_cons.mpr ⟨lw_p16, List.forall_mem_cons.mpr ⟨lw_p17, List.forall_mem_cons.mpr ⟨lw_p18, List.forall_mem_cons.mpr ⟨lw_p19, List.forall_mem_cons.mpr ⟨lw_p20, List.forall_mem_cons.mpr ⟨lw_p21, List.forall_mem_cons.mpr ⟨lw_p22, List.forall_mem_cons.mpr ⟨lw_p23, List.forall_mem_cons.mpr ⟨lw_p24, List.forall_mem_cons.mpr ⟨lw_p25, List.forall_mem_cons.mpr ⟨lw_p26, List.forall_mem_cons.mpr ⟨lw_p27, List.forall_mem_cons.mpr ⟨lw_p28, List.forall_mem_cons.mpr ⟨lw_p29, List.forall_mem_cons.mpr ⟨lw_p30, List.forall_mem_cons.mpr ⟨lw_p31, fun _ h => absurd h List.not_mem_nil⟩⟩⟩⟩⟩⟩⟩⟩⟩⟩⟩⟩⟩⟩⟩⟩
set_option maxRecDepth 100000 in
theorem lw_p32 : lw_okq (⟨"NumberHouse$DecimalWork", "shorten", "(ZIJI)Z"⟩, 4) := ⟨⟨by decide +kernel, by decide +kernel⟩, tm_1 157 rfl, tm_7 30 rfl, tm_7 31 rfl⟩
set_option maxRecDepth 100000 in
theorem lw_p33 : lw_okq (⟨"NumberHouse", "makeWhole", "(II)V"⟩, 14) := ⟨⟨by decide +kernel, by decide +kernel⟩, tm_1 39 rfl, tm_7 57 rfl, tm_7 58 rfl⟩
set_option maxRecDepth 100000 in
theorem lw_p34 : lw_okq (⟨"NumberHouse", "makeDecimal", "(II)V"⟩, 14) := ⟨⟨by decide +kernel, by decide +kernel⟩, tm_1 39 rfl, tm_7 69 rfl, tm_7 70 rfl⟩
set_option maxRecDepth 100000 in
theorem lw_p35 : lw_okq (⟨"NumberHouse", "madeFloat", "(IILNumberHouse$Floats;)J"⟩, 14) := ⟨⟨by decide +kernel, by decide +kernel⟩, tm_1 39 rfl, tm_7 78 rfl, tm_7 79 rfl⟩
set_option maxRecDepth 100000 in
theorem lw_p36 : lw_okq (⟨"NumberHouse$Writer", "begin", "(Z)V"⟩, 3) := ⟨⟨by decide +kernel, by decide +kernel⟩, tm_2 84 rfl, tm_7 102 rfl, tm_7 103 rfl⟩
set_option maxRecDepth 100000 in
theorem lw_p37 : lw_okq (⟨"NumberHouse$Writer", "writePower", "(I)V"⟩, 3) := ⟨⟨by decide +kernel, by decide +kernel⟩, tm_2 84 rfl, tm_7 139 rfl, tm_7 140 rfl⟩
set_option maxRecDepth 100000 in
theorem lw_p38 : lw_okq (⟨"NumberHouse$Writer", "writeByThrees", "(II)V"⟩, 3) := ⟨⟨by decide +kernel, by decide +kernel⟩, tm_2 84 rfl, tm_7 150 rfl, tm_7 151 rfl⟩
set_option maxRecDepth 100000 in
theorem lw_p39 : lw_okq (⟨"NumberHouse$Writer", "writeHexadecimal", "(LNumberHouse$Floats;J)V"⟩, 3) := ⟨⟨by decide +kernel, by decide +kernel⟩, tm_2 84 rfl, tm_7 177 rfl, tm_7 178 rfl⟩
set_option maxRecDepth 100000 in
theorem lw_p40 : lw_okq (⟨"NumberHouse$Writer", "writeSigned", "(I)V"⟩, 3) := ⟨⟨by decide +kernel, by decide +kernel⟩, tm_2 84 rfl, tm_7 187 rfl, tm_7 188 rfl⟩
set_option maxRecDepth 100000 in
theorem lw_p41 : lw_okq (⟨"NumberHouse$Writer", "writeShort", "(LNumberHouse$Floats;J)V"⟩, 3) := ⟨⟨by decide +kernel, by decide +kernel⟩, tm_2 84 rfl, tm_7 191 rfl, tm_7 192 rfl⟩
set_option maxRecDepth 100000 in
theorem lw_p42 : lw_okq (⟨"NumberHouse$Digits", "goesOutwards", "(II)Z"⟩, 3) := ⟨⟨by decide +kernel, by decide +kernel⟩, tm_2 19 rfl, tm_7 217 rfl, tm_7 218 rfl⟩
set_option maxRecDepth 100000 in
theorem lw_p43 : lw_okq (⟨"NumberHouse$Digits", "stepOutwards", "(I)V"⟩, 3) := ⟨⟨by decide +kernel, by decide +kernel⟩, tm_2 19 rfl, tm_7 221 rfl, tm_7 222 rfl⟩
set_option maxRecDepth 100000 in
theorem lw_p44 : lw_okq (⟨"NumberHouse", "addArgument", "(II)V"⟩, 14) := ⟨⟨by decide +kernel, by decide +kernel⟩, tm_1 39 rfl, tm_8 25 rfl, tm_8 26 rfl⟩
set_option maxRecDepth 100000 in
theorem lw_p45 : lw_okq (⟨"NumberHouse$Directive", "takeIndex", "()V"⟩, 8) := ⟨⟨by decide +kernel, by decide +kernel⟩, tm_2 109 rfl, tm_8 60 rfl, tm_8 61 rfl⟩
set_option maxRecDepth 100000 in
theorem lw_p46 : lw_okq (⟨"NumberHouse$Directive", "figureAt", "(I)I"⟩, 8) := ⟨⟨by decide +kernel, by decide +kernel⟩, tm_2 109 rfl, tm_8 64 rfl, tm_8 65 rfl⟩
set_option maxRecDepth 100000 in
theorem lw_p47 : lw_okq (⟨"NumberHouse$Directive", "takeNumber", "()I"⟩, 8) := ⟨⟨by decide +kernel, by decide +kernel⟩, tm_2 109 rfl, tm_8 69 rfl, tm_8 70 rfl⟩
def lw_privs_3 : List (MethodName × Nat) := [(⟨"NumberHouse$DecimalWork", "shorten", "(ZIJI)Z"⟩, 4), (⟨"NumberHouse", "makeWhole", "(II)V"⟩, 14), (⟨"NumberHouse", "makeDecimal", "(II)V"⟩, 14), (⟨"NumberHouse", "madeFloat", "(IILNumberHouse$Floats;)J"⟩, 14), (⟨"NumberHouse$Writer", "begin", "(Z)V"⟩, 3), (⟨"NumberHouse$Writer", "writePower", "(I)V"⟩, 3), (⟨"NumberHouse$Writer", "writeByThrees", "(II)V"⟩, 3), (⟨"NumberHouse$Writer", "writeHexadecimal", "(LNumberHouse$Floats;J)V"⟩, 3), (⟨"NumberHouse$Writer", "writeSigned", "(I)V"⟩, 3), (⟨"NumberHouse$Writer", "writeShort", "(LNumberHouse$Floats;J)V"⟩, 3), (⟨"NumberHouse$Digits", "goesOutwards", "(II)Z"⟩, 3), (⟨"NumberHouse$Digits", "stepOutwards", "(I)V"⟩, 3), (⟨"NumberHouse", "addArgument", "(II)V"⟩, 14), (⟨"NumberHouse$Directive", "takeIndex", "()V"⟩, 8), (⟨"NumberHouse$Directive", "figureAt", "(I)I"⟩, 8), (⟨"NumberHouse$Directive", "takeNumber", "()I"⟩, 8)]
theorem lw_r3 : ∀ q ∈ lw_privs_3, lw_okq q := List.forall_mem_cons.mpr ⟨lw_p32, List.forall_mem_cons.mpr ⟨lw_p33, List.forall_mem_cons.mpr ⟨lw_p34, List.forall_mem_cons.mpr ⟨lw_p35, List.forall_mem_cons.mpr ⟨lw_p36, List.forall_mem_cons.mpr ⟨lw_p37, List.forall_mem_cons.mpr ⟨lw_p38, List.forall_mem_cons.mpr ⟨lw_p39, List.forall_mem_cons.mpr ⟨lw_p40, List.forall_mem_cons.mpr ⟨lw_p41, List.forall_mem_cons.mpr ⟨lw_p42, List.forall_mem_cons.mpr ⟨lw_p43, List.forall_mem_cons.mpr ⟨lw_p44, List.forall_mem_cons.mpr ⟨lw_p45, List.forall_mem_cons.mpr ⟨lw_p46, List.forall_mem_cons.mpr ⟨lw_p47, fun _ h => absurd h List.not_mem_nil⟩⟩⟩⟩⟩⟩⟩⟩⟩⟩⟩⟩⟩⟩⟩⟩
set_option maxRecDepth 100000 in
theorem lw_p48 : lw_okq (⟨"NumberHouse$Directive", "takeFlags", "()V"⟩, 8) := ⟨⟨by decide +kernel, by decide +kernel⟩, tm_2 109 rfl, tm_8 74 rfl, tm_8 75 rfl⟩
set_option maxRecDepth 100000 in
theorem lw_p49 : lw_okq (⟨"NumberHouse$Printer", "findFault", "()I"⟩, 12) := ⟨⟨by decide +kernel, by decide +kernel⟩, tm_2 100 rfl, tm_8 129 rfl, tm_8 130 rfl⟩
set_option maxRecDepth 100000 in
theorem lw_p50 : lw_okq (⟨"NumberHouse$Directive", "possibleFlags", "()I"⟩, 8) := ⟨⟨by decide +kernel, by decide +kernel⟩, tm_2 109 rfl, tm_8 143 rfl, tm_8 144 rfl⟩
set_option maxRecDepth 100000 in
theorem lw_p51 : lw_okq (⟨"NumberHouse$Printer", "chooseArgument", "()I"⟩, 12) := ⟨⟨by decide +kernel, by decide +kernel⟩, tm_2 100 rfl, tm_8 153 rfl, tm_8 154 rfl⟩
set_option maxRecDepth 100000 in
theorem lw_p52 : lw_okq (⟨"NumberHouse$Printer", "takesKind", "(I)Z"⟩, 12) := ⟨⟨by decide +kernel, by decide +kernel⟩, tm_2 100 rfl, tm_8 158 rfl, tm_8 159 rfl⟩
set_option maxRecDepth 100000 in
theorem lw_p53 : lw_okq (⟨"NumberHouse$Printer", "writeBody", "()V"⟩, 12) := ⟨⟨by decide +kernel, by decide +kernel⟩, tm_2 100 rfl, tm_8 165 rfl, tm_8 166 rfl⟩
set_option maxRecDepth 100000 in
theorem lw_p54 : lw_okq (⟨"NumberHouse$Printer", "cutBody", "()V"⟩, 12) := ⟨⟨by decide +kernel, by decide +kernel⟩, tm_2 100 rfl, tm_8 173 rfl, tm_8 174 rfl⟩
set_option maxRecDepth 100000 in
theorem lw_p55 : lw_okq (⟨"NumberHouse$Printer", "writeAnything", "(I)V"⟩, 12) := ⟨⟨by decide +kernel, by decide +kernel⟩, tm_2 100 rfl, tm_8 183 rfl, tm_8 184 rfl⟩
set_option maxRecDepth 100000 in
theorem lw_p56 : lw_okq (⟨"NumberHouse$Printer", "writeToBase", "(J)V"⟩, 12) := ⟨⟨by decide +kernel, by decide +kernel⟩, tm_2 100 rfl, tm_8 191 rfl, tm_8 192 rfl⟩
set_option maxRecDepth 100000 in
theorem lw_p57 : lw_okq (⟨"NumberHouse$Printer", "writeSign", "(Z)V"⟩, 12) := ⟨⟨by decide +kernel, by decide +kernel⟩, tm_2 100 rfl, tm_8 199 rfl, tm_8 200 rfl⟩
set_option maxRecDepth 100000 in
theorem lw_p58 : lw_okq (⟨"NumberHouse$Printer", "writeNumber", "()V"⟩, 12) := ⟨⟨by decide +kernel, by decide +kernel⟩, tm_2 100 rfl, tm_8 203 rfl, tm_8 204 rfl⟩
set_option maxRecDepth 100000 in
theorem lw_p59 : lw_okq (⟨"NumberHouse$Printer", "widen", "(LNumberHouse$Sheet;)V"⟩, 12) := ⟨⟨by decide +kernel, by decide +kernel⟩, tm_2 100 rfl, tm_8 218 rfl, tm_8 219 rfl⟩
set_option maxRecDepth 100000 in
theorem lw_p60 : lw_okq (⟨"NumberHouseModel$WholeRows", "store", "(I)V"⟩, 21) := ⟨⟨by decide +kernel, by decide +kernel⟩, tm_8 236 rfl, tm_10 226 rfl, tm_10 227 rfl⟩
set_option maxRecDepth 100000 in
theorem lw_p61 : lw_okq (⟨"NumberHouseModel$DecimalRows", "says", "()Z"⟩, 21) := ⟨⟨by decide +kernel, by decide +kernel⟩, tm_9 71 rfl, tm_10 237 rfl, tm_10 238 rfl⟩
set_option maxRecDepth 100000 in
theorem lw_p62 : lw_okq (⟨"NumberHouseModel$DecimalRows", "at", "(I)I"⟩, 21) := ⟨⟨by decide +kernel, by decide +kernel⟩, tm_9 71 rfl, tm_11 1 rfl, tm_11 2 rfl⟩
set_option maxRecDepth 100000 in
theorem lw_p63 : lw_okq (⟨"NumberHouseModel$DecimalRows", "store", "(I)V"⟩, 21) := ⟨⟨by decide +kernel, by decide +kernel⟩, tm_9 71 rfl, tm_11 10 rfl, tm_11 11 rfl⟩
def lw_privs_4 : List (MethodName × Nat) := [(⟨"NumberHouse$Directive", "takeFlags", "()V"⟩, 8), (⟨"NumberHouse$Printer", "findFault", "()I"⟩, 12), (⟨"NumberHouse$Directive", "possibleFlags", "()I"⟩, 8), (⟨"NumberHouse$Printer", "chooseArgument", "()I"⟩, 12), (⟨"NumberHouse$Printer", "takesKind", "(I)Z"⟩, 12), (⟨"NumberHouse$Printer", "writeBody", "()V"⟩, 12), (⟨"NumberHouse$Printer", "cutBody", "()V"⟩, 12), (⟨"NumberHouse$Printer", "writeAnything", "(I)V"⟩, 12), (⟨"NumberHouse$Printer", "writeToBase", "(J)V"⟩, 12), (⟨"NumberHouse$Printer", "writeSign", "(Z)V"⟩, 12), (⟨"NumberHouse$Printer", "writeNumber", "()V"⟩, 12), (⟨"NumberHouse$Printer", "widen", "(LNumberHouse$Sheet;)V"⟩, 12), (⟨"NumberHouseModel$WholeRows", "store", "(I)V"⟩, 21), (⟨"NumberHouseModel$DecimalRows", "says", "()Z"⟩, 21), (⟨"NumberHouseModel$DecimalRows", "at", "(I)I"⟩, 21), (⟨"NumberHouseModel$DecimalRows", "store", "(I)V"⟩, 21)]
theorem lw_r4 : ∀ q ∈ lw_privs_4, lw_okq q := List.forall_mem_cons.mpr ⟨lw_p48, List.forall_mem_cons.mpr ⟨lw_p49, List.forall_mem_cons.mpr ⟨lw_p50, List.forall_mem_cons.mpr ⟨lw_p51, List.forall_mem_cons.mpr ⟨lw_p52, List.forall_mem_cons.mpr ⟨lw_p53, List.forall_mem_cons.mpr ⟨lw_p54, List.forall_mem_cons.mpr ⟨lw_p55, List.forall_mem_cons.mpr ⟨lw_p56, List.forall_mem_cons.mpr ⟨lw_p57, List.forall_mem_cons.mpr ⟨lw_p58, List.forall_mem_cons.mpr ⟨lw_p59, List.forall_mem_cons.mpr ⟨lw_p60, List.forall_mem_cons.mpr ⟨lw_p61, List.forall_mem_cons.mpr ⟨lw_p62, List.forall_mem_cons.mpr ⟨lw_p63, fun _ h => absurd h List.not_mem_nil⟩⟩⟩⟩⟩⟩⟩⟩⟩⟩⟩⟩⟩⟩⟩⟩
set_option maxRecDepth 100000 in
theorem lw_p64 : lw_okq (⟨"NumberHouseModel$DecimalRows", "trim", "()V"⟩, 21) := ⟨⟨by decide +kernel, by decide +kernel⟩, tm_9 71 rfl, tm_11 14 rfl, tm_11 15 rfl⟩
set_option maxRecDepth 100000 in
theorem lw_p65 : lw_okq (⟨"NumberHouseModel$TextRows", "scan", "()Z"⟩, 17) := ⟨⟨by decide +kernel, by decide +kernel⟩, tm_9 212 rfl, tm_11 24 rfl, tm_11 25 rfl⟩
set_option maxRecDepth 100000 in
theorem lw_p66 : lw_okq (⟨"NumberHouseModel$TextRows", "blanks", "()V"⟩, 17) := ⟨⟨by decide +kernel, by decide +kernel⟩, tm_9 212 rfl, tm_11 28 rfl, tm_11 29 rfl⟩
set_option maxRecDepth 100000 in
theorem lw_p67 : lw_okq (⟨"NumberHouseModel$TextRows", "here", "()I"⟩, 17) := ⟨⟨by decide +kernel, by decide +kernel⟩, tm_9 212 rfl, tm_11 32 rfl, tm_11 33 rfl⟩
set_option maxRecDepth 100000 in
theorem lw_p68 : lw_okq (⟨"NumberHouseModel$TextRows", "spells", "(J)Z"⟩, 17) := ⟨⟨by decide +kernel, by decide +kernel⟩, tm_9 212 rfl, tm_11 37 rfl, tm_11 38 rfl⟩
set_option maxRecDepth 100000 in
theorem lw_p69 : lw_okq (⟨"NumberHouseModel$TextRows", "number", "()Z"⟩, 17) := ⟨⟨by decide +kernel, by decide +kernel⟩, tm_9 212 rfl, tm_11 43 rfl, tm_11 44 rfl⟩
set_option maxRecDepth 100000 in
theorem lw_p70 : lw_okq (⟨"NumberHouseModel$TextRows", "digits", "(Z)Z"⟩, 17) := ⟨⟨by decide +kernel, by decide +kernel⟩, tm_9 212 rfl, tm_11 47 rfl, tm_11 48 rfl⟩
set_option maxRecDepth 100000 in
theorem lw_p71 : lw_okq (⟨"NumberHouseModel$TextRows", "isAt", "(II)Z"⟩, 17) := ⟨⟨by decide +kernel, by decide +kernel⟩, tm_9 212 rfl, tm_11 57 rfl, tm_11 58 rfl⟩
set_option maxRecDepth 100000 in
theorem lw_p72 : lw_okq (⟨"NumberHouseModel$TextRows", "power", "()Z"⟩, 17) := ⟨⟨by decide +kernel, by decide +kernel⟩, tm_9 212 rfl, tm_11 61 rfl, tm_11 62 rfl⟩
set_option maxRecDepth 100000 in
theorem lw_p73 : lw_okq (⟨"NumberHouseModel$TextRows", "sizeRead", "(II)J"⟩, 17) := ⟨⟨by decide +kernel, by decide +kernel⟩, tm_9 212 rfl, tm_11 68 rfl, tm_11 69 rfl⟩
set_option maxRecDepth 100000 in
theorem lw_p74 : lw_okq (⟨"NumberHouseModel$TextRows", "find", "(II)V"⟩, 17) := ⟨⟨by decide +kernel, by decide +kernel⟩, tm_9 212 rfl, tm_11 73 rfl, tm_11 74 rfl⟩
set_option maxRecDepth 100000 in
theorem lw_p75 : lw_okq (⟨"NumberHouseModel$TextRows", "findDecimal", "(III)V"⟩, 17) := ⟨⟨by decide +kernel, by decide +kernel⟩, tm_9 212 rfl, tm_11 77 rfl, tm_11 78 rfl⟩
set_option maxRecDepth 100000 in
theorem lw_p76 : lw_okq (⟨"NumberHouseModel$TextRows", "writeOut", "(II)V"⟩, 17) := ⟨⟨by decide +kernel, by decide +kernel⟩, tm_9 212 rfl, tm_11 83 rfl, tm_11 84 rfl⟩
set_option maxRecDepth 100000 in
theorem lw_p77 : lw_okq (⟨"NumberHouseModel$TextRows", "wholePart", "()J"⟩, 17) := ⟨⟨by decide +kernel, by decide +kernel⟩, tm_9 212 rfl, tm_11 87 rfl, tm_11 88 rfl⟩
set_option maxRecDepth 100000 in
theorem lw_p78 : lw_okq (⟨"NumberHouseModel$TextRows", "half", "()V"⟩, 17) := ⟨⟨by decide +kernel, by decide +kernel⟩, tm_9 212 rfl, tm_11 93 rfl, tm_11 94 rfl⟩
set_option maxRecDepth 100000 in
theorem lw_p79 : lw_okq (⟨"NumberHouseModel$TextRows", "twice", "()V"⟩, 17) := ⟨⟨by decide +kernel, by decide +kernel⟩, tm_9 212 rfl, tm_11 99 rfl, tm_11 100 rfl⟩
def lw_privs_5 : List (MethodName × Nat) := [(⟨"NumberHouseModel$DecimalRows", "trim", "()V"⟩, 21), (⟨"NumberHouseModel$TextRows", "scan", "()Z"⟩, 17), (⟨"NumberHouseModel$TextRows", "blanks", "()V"⟩, 17), (⟨"NumberHouseModel$TextRows", "here", "()I"⟩, 17), (⟨"NumberHouseModel$TextRows", "spells", "(J)Z"⟩, 17), (⟨"NumberHouseModel$TextRows", "number", "()Z"⟩, 17), (⟨"NumberHouseModel$TextRows", "digits", "(Z)Z"⟩, 17), (⟨"NumberHouseModel$TextRows", "isAt", "(II)Z"⟩, 17), (⟨"NumberHouseModel$TextRows", "power", "()Z"⟩, 17), (⟨"NumberHouseModel$TextRows", "sizeRead", "(II)J"⟩, 17), (⟨"NumberHouseModel$TextRows", "find", "(II)V"⟩, 17), (⟨"NumberHouseModel$TextRows", "findDecimal", "(III)V"⟩, 17), (⟨"NumberHouseModel$TextRows", "writeOut", "(II)V"⟩, 17), (⟨"NumberHouseModel$TextRows", "wholePart", "()J"⟩, 17), (⟨"NumberHouseModel$TextRows", "half", "()V"⟩, 17), (⟨"NumberHouseModel$TextRows", "twice", "()V"⟩, 17)]
theorem lw_r5 : ∀ q ∈ lw_privs_5, lw_okq q := List.forall_mem_cons.mpr ⟨lw_p64, List.forall_mem_cons.mpr ⟨lw_p65, List.forall_mem_cons.mpr ⟨lw_p66, List.forall_mem_cons.mpr ⟨lw_p67, List.forall_mem_cons.mpr ⟨lw_p68, List.forall_mem_cons.mpr ⟨lw_p69, List.forall_mem_cons.mpr ⟨lw_p70, List.forall_mem_cons.mpr ⟨lw_p71, List.forall_mem_cons.mpr ⟨lw_p72, List.forall_mem_cons.mpr ⟨lw_p73, List.forall_mem_cons.mpr ⟨lw_p74, List.forall_mem_cons.mpr ⟨lw_p75, List.forall_mem_cons.mpr ⟨lw_p76, List.forall_mem_cons.mpr ⟨lw_p77, List.forall_mem_cons.mpr ⟨lw_p78, List.forall_mem_cons.mpr ⟨lw_p79, fun _ h => absurd h List.not_mem_nil⟩⟩⟩⟩⟩⟩⟩⟩⟩⟩⟩⟩⟩⟩⟩⟩
set_option maxRecDepth 100000 in
theorem lw_p80 : lw_okq (⟨"NumberHouseModel$TextRows", "findHexadecimal", "(III)V"⟩, 17) := ⟨⟨by decide +kernel, by decide +kernel⟩, tm_9 212 rfl, tm_11 103 rfl, tm_11 104 rfl⟩
set_option maxRecDepth 100000 in
theorem lw_p81 : lw_okq (⟨"NumberHouseModel$TextRows", "bitAt", "(J)I"⟩, 17) := ⟨⟨by decide +kernel, by decide +kernel⟩, tm_9 212 rfl, tm_11 112 rfl, tm_11 113 rfl⟩
set_option maxRecDepth 100000 in
theorem lw_p82 : lw_okq (⟨"NumberHouseModel$TextRows", "goesUp", "()Z"⟩, 17) := ⟨⟨by decide +kernel, by decide +kernel⟩, tm_9 212 rfl, tm_11 117 rfl, tm_11 118 rfl⟩
set_option maxRecDepth 100000 in
theorem lw_p83 : lw_okq (⟨"NumberHouseModel$TextRows", "pack", "(JII)J"⟩, 17) := ⟨⟨by decide +kernel, by decide +kernel⟩, tm_9 212 rfl, tm_11 121 rfl, tm_11 122 rfl⟩
set_option maxRecDepth 100000 in
theorem lw_p84 : lw_okq (⟨"NumberHouseModel", "setBits", "(IIJ)V"⟩, 12) := ⟨⟨by decide +kernel, by decide +kernel⟩, tm_8 230 rfl, tm_11 132 rfl, tm_11 133 rfl⟩
set_option maxRecDepth 100000 in
theorem lw_p85 : lw_okq (⟨"NumberHouseModel$WholeRows", "limb", "(II)I"⟩, 21) := ⟨⟨by decide +kernel, by decide +kernel⟩, tm_8 236 rfl, tm_11 156 rfl, tm_11 157 rfl⟩
set_option maxRecDepth 100000 in
theorem lw_p86 : lw_okq (⟨"NumberHouseModel$WholeRows", "isZero", "(I)Z"⟩, 21) := ⟨⟨by decide +kernel, by decide +kernel⟩, tm_8 236 rfl, tm_11 161 rfl, tm_11 162 rfl⟩
set_option maxRecDepth 100000 in
theorem lw_p87 : lw_okq (⟨"NumberHouseModel$DecimalRows", "isZero", "(I)Z"⟩, 21) := ⟨⟨by decide +kernel, by decide +kernel⟩, tm_9 71 rfl, tm_11 170 rfl, tm_11 171 rfl⟩
set_option maxRecDepth 100000 in
theorem lw_p88 : lw_okq (⟨"NumberHouseModel", "bitsOf", "(II)J"⟩, 12) := ⟨⟨by decide +kernel, by decide +kernel⟩, tm_8 230 rfl, tm_11 174 rfl, tm_11 175 rfl⟩
set_option maxRecDepth 100000 in
theorem lw_p89 : lw_okq (⟨"NumberHouseModel$FloatRows", "open", "(JZ)V"⟩, 18) := ⟨⟨by decide +kernel, by decide +kernel⟩, tm_9 149 rfl, tm_11 189 rfl, tm_11 190 rfl⟩
set_option maxRecDepth 100000 in
theorem lw_p90 : lw_okq (⟨"NumberHouseModel$FloatRows", "isFinite", "()Z"⟩, 18) := ⟨⟨by decide +kernel, by decide +kernel⟩, tm_9 149 rfl, tm_11 193 rfl, tm_11 194 rfl⟩
set_option maxRecDepth 100000 in
theorem lw_p91 : lw_okq (⟨"NumberHouseModel$FloatRows", "findShortest", "()V"⟩, 18) := ⟨⟨by decide +kernel, by decide +kernel⟩, tm_9 149 rfl, tm_11 197 rfl, tm_11 198 rfl⟩
set_option maxRecDepth 100000 in
theorem lw_p92 : lw_okq (⟨"NumberHouseModel$FloatRows", "setAll", "()V"⟩, 18) := ⟨⟨by decide +kernel, by decide +kernel⟩, tm_9 149 rfl, tm_11 201 rfl, tm_11 202 rfl⟩
set_option maxRecDepth 100000 in
theorem lw_p93 : lw_okq (⟨"NumberHouseModel$FloatRows", "setUnit", "(I)V"⟩, 18) := ⟨⟨by decide +kernel, by decide +kernel⟩, tm_9 149 rfl, tm_11 205 rfl, tm_11 206 rfl⟩
set_option maxRecDepth 100000 in
theorem lw_p94 : lw_okq (⟨"NumberHouseModel$FloatRows", "set", "([IJ)V"⟩, 18) := ⟨⟨by decide +kernel, by decide +kernel⟩, tm_9 149 rfl, tm_11 211 rfl, tm_11 212 rfl⟩
set_option maxRecDepth 100000 in
theorem lw_p95 : lw_okq (⟨"NumberHouseModel$FloatRows", "leastLength", "()I"⟩, 18) := ⟨⟨by decide +kernel, by decide +kernel⟩, tm_9 149 rfl, tm_11 217 rfl, tm_11 218 rfl⟩
def lw_privs_6 : List (MethodName × Nat) := [(⟨"NumberHouseModel$TextRows", "findHexadecimal", "(III)V"⟩, 17), (⟨"NumberHouseModel$TextRows", "bitAt", "(J)I"⟩, 17), (⟨"NumberHouseModel$TextRows", "goesUp", "()Z"⟩, 17), (⟨"NumberHouseModel$TextRows", "pack", "(JII)J"⟩, 17), (⟨"NumberHouseModel", "setBits", "(IIJ)V"⟩, 12), (⟨"NumberHouseModel$WholeRows", "limb", "(II)I"⟩, 21), (⟨"NumberHouseModel$WholeRows", "isZero", "(I)Z"⟩, 21), (⟨"NumberHouseModel$DecimalRows", "isZero", "(I)Z"⟩, 21), (⟨"NumberHouseModel", "bitsOf", "(II)J"⟩, 12), (⟨"NumberHouseModel$FloatRows", "open", "(JZ)V"⟩, 18), (⟨"NumberHouseModel$FloatRows", "isFinite", "()Z"⟩, 18), (⟨"NumberHouseModel$FloatRows", "findShortest", "()V"⟩, 18), (⟨"NumberHouseModel$FloatRows", "setAll", "()V"⟩, 18), (⟨"NumberHouseModel$FloatRows", "setUnit", "(I)V"⟩, 18), (⟨"NumberHouseModel$FloatRows", "set", "([IJ)V"⟩, 18), (⟨"NumberHouseModel$FloatRows", "leastLength", "()I"⟩, 18)]
theorem lw_r6 : ∀ q ∈ lw_privs_6, lw_okq q := List.forall_mem_cons.mpr ⟨lw_p80, List.forall_mem_cons.mpr ⟨lw_p81, List.forall_mem_cons.mpr ⟨lw_p82, List.forall_mem_cons.mpr ⟨lw_p83, List.forall_mem_cons.mpr ⟨lw_p84, List.forall_mem_cons.mpr ⟨lw_p85, List.forall_mem_cons.mpr ⟨lw_p86, List.forall_mem_cons.mpr ⟨lw_p87, List.forall_mem_cons.mpr ⟨lw_p88, List.forall_mem_cons.mpr ⟨lw_p89, List.forall_mem_cons.mpr ⟨lw_p90, List.forall_mem_cons.mpr ⟨lw_p91, List.forall_mem_cons.mpr ⟨lw_p92, List.forall_mem_cons.mpr ⟨lw_p93, List.forall_mem_cons.mpr ⟨lw_p94, List.forall_mem_cons.mpr ⟨lw_p95, fun _ h => absurd h List.not_mem_nil⟩⟩⟩⟩⟩⟩⟩⟩⟩⟩⟩⟩⟩⟩⟩⟩
set_option maxRecDepth 100000 in
theorem lw_p96 : lw_okq (⟨"NumberHouseModel$FloatRows", "top", "()I"⟩, 18) := ⟨⟨by decide +kernel, by decide +kernel⟩, tm_9 149 rfl, tm_11 221 rfl, tm_11 222 rfl⟩
set_option maxRecDepth 100000 in
theorem lw_p97 : lw_okq (⟨"NumberHouseModel$FloatRows", "cut", "(IZ)V"⟩, 18) := ⟨⟨by decide +kernel, by decide +kernel⟩, tm_9 149 rfl, tm_11 225 rfl, tm_11 226 rfl⟩
set_option maxRecDepth 100000 in
theorem lw_p98 : lw_okq (⟨"NumberHouseModel$FloatRows", "readsBack", "()Z"⟩, 18) := ⟨⟨by decide +kernel, by decide +kernel⟩, tm_9 149 rfl, tm_11 229 rfl, tm_11 230 rfl⟩
set_option maxRecDepth 100000 in
theorem lw_p99 : lw_okq (⟨"NumberHouseModel$FloatRows", "half", "(I)I"⟩, 18) := ⟨⟨by decide +kernel, by decide +kernel⟩, tm_9 149 rfl, tm_11 236 rfl, tm_11 237 rfl⟩
set_option maxRecDepth 100000 in
theorem lw_p100 : lw_okq (⟨"NumberHouseModel$WholeRows", "take", "(I[I)V"⟩, 21) := ⟨⟨by decide +kernel, by decide +kernel⟩, tm_8 236 rfl, tm_12 13 rfl, tm_12 14 rfl⟩
set_option maxRecDepth 100000 in
theorem lw_p101 : lw_okq (⟨"NumberHouseModel$DecimalRows", "compareSizes", "(II)I"⟩, 21) := ⟨⟨by decide +kernel, by decide +kernel⟩, tm_9 71 rfl, tm_12 24 rfl, tm_12 25 rfl⟩
set_option maxRecDepth 100000 in
theorem lw_p102 : lw_okq (⟨"NumberHouseModel$WholeRows", "sum", "([IZ[IZ)V"⟩, 21) := ⟨⟨by decide +kernel, by decide +kernel⟩, tm_8 236 rfl, tm_12 47 rfl, tm_12 48 rfl⟩
set_option maxRecDepth 100000 in
theorem lw_p103 : lw_okq (⟨"NumberHouseModel$WholeRows", "multiplyRows", "([I[I[I)V"⟩, 21) := ⟨⟨by decide +kernel, by decide +kernel⟩, tm_8 236 rfl, tm_12 61 rfl, tm_12 62 rfl⟩
set_option maxRecDepth 100000 in
theorem lw_p104 : lw_okq (⟨"NumberHouseModel$WholeRows", "divideRows", "([I[I)V"⟩, 21) := ⟨⟨by decide +kernel, by decide +kernel⟩, tm_8 236 rfl, tm_12 69 rfl, tm_12 70 rfl⟩
set_option maxRecDepth 100000 in
theorem lw_p105 : lw_okq (⟨"NumberHouseModel$WholeRows", "isAbove0", "(I)Z"⟩, 21) := ⟨⟨by decide +kernel, by decide +kernel⟩, tm_8 236 rfl, tm_12 77 rfl, tm_12 78 rfl⟩
set_option maxRecDepth 100000 in
theorem lw_p106 : lw_okq (⟨"NumberHouseModel$WholeRows", "reduce", "(I[I)V"⟩, 21) := ⟨⟨by decide +kernel, by decide +kernel⟩, tm_8 236 rfl, tm_12 81 rfl, tm_12 82 rfl⟩
set_option maxRecDepth 100000 in
theorem lw_p107 : lw_okq (⟨"NumberHouseModel$WholeRows", "inverts", "()Z"⟩, 21) := ⟨⟨by decide +kernel, by decide +kernel⟩, tm_8 236 rfl, tm_12 93 rfl, tm_12 94 rfl⟩
set_option maxRecDepth 100000 in
theorem lw_p108 : lw_okq (⟨"NumberHouseModel$WholeRows", "setOne", "([I)V"⟩, 21) := ⟨⟨by decide +kernel, by decide +kernel⟩, tm_8 236 rfl, tm_12 97 rfl, tm_12 98 rfl⟩
set_option maxRecDepth 100000 in
theorem lw_p109 : lw_okq (⟨"NumberHouseModel$WholeRows", "fits", "(I)Z"⟩, 21) := ⟨⟨by decide +kernel, by decide +kernel⟩, tm_8 236 rfl, tm_12 118 rfl, tm_12 119 rfl⟩
set_option maxRecDepth 100000 in
theorem lw_p110 : lw_okq (⟨"NumberHouseModel$DecimalRows", "figure", "(IJI)I"⟩, 21) := ⟨⟨by decide +kernel, by decide +kernel⟩, tm_9 71 rfl, tm_12 143 rfl, tm_12 144 rfl⟩
set_option maxRecDepth 100000 in
theorem lw_p111 : lw_okq (⟨"NumberHouseModel$DecimalRows", "load", "(I)V"⟩, 21) := ⟨⟨by decide +kernel, by decide +kernel⟩, tm_9 71 rfl, tm_12 151 rfl, tm_12 152 rfl⟩
def lw_privs_7 : List (MethodName × Nat) := [(⟨"NumberHouseModel$FloatRows", "top", "()I"⟩, 18), (⟨"NumberHouseModel$FloatRows", "cut", "(IZ)V"⟩, 18), (⟨"NumberHouseModel$FloatRows", "readsBack", "()Z"⟩, 18), (⟨"NumberHouseModel$FloatRows", "half", "(I)I"⟩, 18), (⟨"NumberHouseModel$WholeRows", "take", "(I[I)V"⟩, 21), (⟨"NumberHouseModel$DecimalRows", "compareSizes", "(II)I"⟩, 21), (⟨"NumberHouseModel$WholeRows", "sum", "([IZ[IZ)V"⟩, 21), (⟨"NumberHouseModel$WholeRows", "multiplyRows", "([I[I[I)V"⟩, 21), (⟨"NumberHouseModel$WholeRows", "divideRows", "([I[I)V"⟩, 21), (⟨"NumberHouseModel$WholeRows", "isAbove0", "(I)Z"⟩, 21), (⟨"NumberHouseModel$WholeRows", "reduce", "(I[I)V"⟩, 21), (⟨"NumberHouseModel$WholeRows", "inverts", "()Z"⟩, 21), (⟨"NumberHouseModel$WholeRows", "setOne", "([I)V"⟩, 21), (⟨"NumberHouseModel$WholeRows", "fits", "(I)Z"⟩, 21), (⟨"NumberHouseModel$DecimalRows", "figure", "(IJI)I"⟩, 21), (⟨"NumberHouseModel$DecimalRows", "load", "(I)V"⟩, 21)]
theorem lw_r7 : ∀ q ∈ lw_privs_7, lw_okq q := List.forall_mem_cons.mpr ⟨lw_p96, List.forall_mem_cons.mpr ⟨lw_p97, List.forall_mem_cons.mpr ⟨lw_p98, List.forall_mem_cons.mpr ⟨lw_p99, List.forall_mem_cons.mpr ⟨lw_p100, List.forall_mem_cons.mpr ⟨lw_p101, List.forall_mem_cons.mpr ⟨lw_p102, List.forall_mem_cons.mpr ⟨lw_p103, List.forall_mem_cons.mpr ⟨lw_p104, List.forall_mem_cons.mpr ⟨lw_p105, List.forall_mem_cons.mpr ⟨lw_p106, List.forall_mem_cons.mpr ⟨lw_p107, List.forall_mem_cons.mpr ⟨lw_p108, List.forall_mem_cons.mpr ⟨lw_p109, List.forall_mem_cons.mpr ⟨lw_p110, List.forall_mem_cons.mpr ⟨lw_p111, fun _ h => absurd h List.not_mem_nil⟩⟩⟩⟩⟩⟩⟩⟩⟩⟩⟩⟩⟩⟩⟩⟩
set_option maxRecDepth 100000 in
theorem lw_p112 : lw_okq (⟨"NumberHouseModel$DecimalRows", "times", "(I)Z"⟩, 21) := ⟨⟨by decide +kernel, by decide +kernel⟩, tm_9 71 rfl, tm_12 155 rfl, tm_12 156 rfl⟩
set_option maxRecDepth 100000 in
theorem lw_p113 : lw_okq (⟨"NumberHouseModel$DecimalRows", "bring", "(JII)V"⟩, 21) := ⟨⟨by decide +kernel, by decide +kernel⟩, tm_9 71 rfl, tm_12 164 rfl, tm_12 165 rfl⟩
set_option maxRecDepth 100000 in
theorem lw_p114 : lw_okq (⟨"NumberHouseModel$DecimalRows", "lengthen", "(J)V"⟩, 21) := ⟨⟨by decide +kernel, by decide +kernel⟩, tm_9 71 rfl, tm_12 168 rfl, tm_12 169 rfl⟩
set_option maxRecDepth 100000 in
theorem lw_p115 : lw_okq (⟨"NumberHouseModel$DecimalRows", "cut", "(II)Z"⟩, 21) := ⟨⟨by decide +kernel, by decide +kernel⟩, tm_9 71 rfl, tm_12 173 rfl, tm_12 174 rfl⟩
set_option maxRecDepth 100000 in
theorem lw_p116 : lw_okq (⟨"NumberHouseModel$DecimalRows", "grows", "(II)I"⟩, 21) := ⟨⟨by decide +kernel, by decide +kernel⟩, tm_9 71 rfl, tm_12 177 rfl, tm_12 178 rfl⟩
set_option maxRecDepth 100000 in
theorem lw_p117 : lw_okq (⟨"NumberHouseModel$DecimalRows", "isMore", "(I)Z"⟩, 21) := ⟨⟨by decide +kernel, by decide +kernel⟩, tm_9 71 rfl, tm_12 181 rfl, tm_12 182 rfl⟩
set_option maxRecDepth 100000 in
theorem lw_p118 : lw_okq (⟨"NumberHouseModel$DecimalRows", "loadUnder", "(II)V"⟩, 21) := ⟨⟨by decide +kernel, by decide +kernel⟩, tm_9 71 rfl, tm_12 185 rfl, tm_12 186 rfl⟩
set_option maxRecDepth 100000 in
theorem lw_p119 : lw_okq (⟨"NumberHouseModel$DecimalRows", "beginQuotient", "()V"⟩, 21) := ⟨⟨by decide +kernel, by decide +kernel⟩, tm_9 71 rfl, tm_12 189 rfl, tm_12 190 rfl⟩
set_option maxRecDepth 100000 in
theorem lw_p120 : lw_okq (⟨"NumberHouseModel$DecimalRows", "nextFigure", "(I)I"⟩, 21) := ⟨⟨by decide +kernel, by decide +kernel⟩, tm_9 71 rfl, tm_12 193 rfl, tm_12 194 rfl⟩
set_option maxRecDepth 100000 in
theorem lw_p121 : lw_okq (⟨"NumberHouseModel$DecimalRows", "reaches", "()Z"⟩, 21) := ⟨⟨by decide +kernel, by decide +kernel⟩, tm_9 71 rfl, tm_12 197 rfl, tm_12 198 rfl⟩
set_option maxRecDepth 100000 in
theorem lw_p122 : lw_okq (⟨"NumberHouseModel$DecimalRows", "takeAway", "()V"⟩, 21) := ⟨⟨by decide +kernel, by decide +kernel⟩, tm_9 71 rfl, tm_12 201 rfl, tm_12 202 rfl⟩
set_option maxRecDepth 100000 in
theorem lw_p123 : lw_okq (⟨"NumberHouseModel$DecimalRows", "needed", "()I"⟩, 21) := ⟨⟨by decide +kernel, by decide +kernel⟩, tm_9 71 rfl, tm_12 221 rfl, tm_12 222 rfl⟩
set_option maxRecDepth 100000 in
theorem lw_p124 : lw_okq (⟨"NumberHouseModel$DecimalRows", "append", "(I)V"⟩, 21) := ⟨⟨by decide +kernel, by decide +kernel⟩, tm_9 71 rfl, tm_12 236 rfl, tm_12 237 rfl⟩
set_option maxRecDepth 100000 in
theorem lw_p125 : lw_okq (⟨"NumberHouseModel$DecimalRows", "isLeft", "()Z"⟩, 21) := ⟨⟨by decide +kernel, by decide +kernel⟩, tm_9 71 rfl, tm_13 0 rfl, tm_13 1 rfl⟩
set_option maxRecDepth 100000 in
theorem lw_p126 : lw_okq (⟨"NumberHouseModel$DecimalRows", "toPrecision", "(IJII)V"⟩, 21) := ⟨⟨by decide +kernel, by decide +kernel⟩, tm_9 71 rfl, tm_13 12 rfl, tm_13 13 rfl⟩
set_option maxRecDepth 100000 in
theorem lw_p127 : lw_okq (⟨"NumberHouseModel$DecimalRows", "nextRoot", "(II)V"⟩, 21) := ⟨⟨by decide +kernel, by decide +kernel⟩, tm_9 71 rfl, tm_13 32 rfl, tm_13 33 rfl⟩
def lw_privs_8 : List (MethodName × Nat) := [(⟨"NumberHouseModel$DecimalRows", "times", "(I)Z"⟩, 21), (⟨"NumberHouseModel$DecimalRows", "bring", "(JII)V"⟩, 21), (⟨"NumberHouseModel$DecimalRows", "lengthen", "(J)V"⟩, 21), (⟨"NumberHouseModel$DecimalRows", "cut", "(II)Z"⟩, 21), (⟨"NumberHouseModel$DecimalRows", "grows", "(II)I"⟩, 21), (⟨"NumberHouseModel$DecimalRows", "isMore", "(I)Z"⟩, 21), (⟨"NumberHouseModel$DecimalRows", "loadUnder", "(II)V"⟩, 21), (⟨"NumberHouseModel$DecimalRows", "beginQuotient", "()V"⟩, 21), (⟨"NumberHouseModel$DecimalRows", "nextFigure", "(I)I"⟩, 21), (⟨"NumberHouseModel$DecimalRows", "reaches", "()Z"⟩, 21), (⟨"NumberHouseModel$DecimalRows", "takeAway", "()V"⟩, 21), (⟨"NumberHouseModel$DecimalRows", "needed", "()I"⟩, 21), (⟨"NumberHouseModel$DecimalRows", "append", "(I)V"⟩, 21), (⟨"NumberHouseModel$DecimalRows", "isLeft", "()Z"⟩, 21), (⟨"NumberHouseModel$DecimalRows", "toPrecision", "(IJII)V"⟩, 21), (⟨"NumberHouseModel$DecimalRows", "nextRoot", "(II)V"⟩, 21)]
theorem lw_r8 : ∀ q ∈ lw_privs_8, lw_okq q := List.forall_mem_cons.mpr ⟨lw_p112, List.forall_mem_cons.mpr ⟨lw_p113, List.forall_mem_cons.mpr ⟨lw_p114, List.forall_mem_cons.mpr ⟨lw_p115, List.forall_mem_cons.mpr ⟨lw_p116, List.forall_mem_cons.mpr ⟨lw_p117, List.forall_mem_cons.mpr ⟨lw_p118, List.forall_mem_cons.mpr ⟨lw_p119, List.forall_mem_cons.mpr ⟨lw_p120, List.forall_mem_cons.mpr ⟨lw_p121, List.forall_mem_cons.mpr ⟨lw_p122, List.forall_mem_cons.mpr ⟨lw_p123, List.forall_mem_cons.mpr ⟨lw_p124, List.forall_mem_cons.mpr ⟨lw_p125, List.forall_mem_cons.mpr ⟨lw_p126, List.forall_mem_cons.mpr ⟨lw_p127, fun _ h => absurd h List.not_mem_nil⟩⟩⟩⟩⟩⟩⟩⟩⟩⟩⟩⟩⟩⟩⟩⟩
set_option maxRecDepth 100000 in
theorem lw_p128 : lw_okq (⟨"NumberHouseModel$DecimalRows", "takesRoot", "(I)Z"⟩, 21) := ⟨⟨by decide +kernel, by decide +kernel⟩, tm_9 71 rfl, tm_13 36 rfl, tm_13 37 rfl⟩
set_option maxRecDepth 100000 in
theorem lw_p129 : lw_okq (⟨"NumberHouseModel", "toFloat", "(IIII)V"⟩, 12) := ⟨⟨by decide +kernel, by decide +kernel⟩, tm_8 230 rfl, tm_13 47 rfl, tm_13 48 rfl⟩
set_option maxRecDepth 100000 in
theorem lw_p130 : lw_okq (⟨"NumberHouseModel$DecimalRows", "print", "(I)V"⟩, 21) := ⟨⟨by decide +kernel, by decide +kernel⟩, tm_9 71 rfl, tm_13 79 rfl, tm_13 80 rfl⟩
set_option maxRecDepth 100000 in
theorem lw_p131 : lw_okq (⟨"NumberHouseModel$DecimalRows", "figures", "(IIII)V"⟩, 21) := ⟨⟨by decide +kernel, by decide +kernel⟩, tm_9 71 rfl, tm_13 83 rfl, tm_13 84 rfl⟩
set_option maxRecDepth 100000 in
theorem lw_p132 : lw_okq (⟨"NumberHouseModel$DecimalRows", "exponent", "(I)V"⟩, 21) := ⟨⟨by decide +kernel, by decide +kernel⟩, tm_9 71 rfl, tm_13 87 rfl, tm_13 88 rfl⟩
set_option maxRecDepth 100000 in
theorem lw_p133 : lw_okq (⟨"NumberHouseModel", "toWhole", "(III)V"⟩, 12) := ⟨⟨by decide +kernel, by decide +kernel⟩, tm_8 230 rfl, tm_13 94 rfl, tm_13 95 rfl⟩
set_option maxRecDepth 100000 in
theorem lw_p134 : lw_okq (⟨"NumberHouseModel", "exact", "(IJI[I)I"⟩, 12) := ⟨⟨by decide +kernel, by decide +kernel⟩, tm_8 230 rfl, tm_13 100 rfl, tm_13 101 rfl⟩
set_option maxRecDepth 100000 in
theorem lw_p135 : lw_okq (⟨"NumberHouseModel$FloatRows", "setValue", "()V"⟩, 18) := ⟨⟨by decide +kernel, by decide +kernel⟩, tm_9 149 rfl, tm_13 108 rfl, tm_13 109 rfl⟩
set_option maxRecDepth 100000 in
theorem lw_p136 : lw_okq (⟨"NumberHouseModel$FloatRows", "isMore", "(II)Z"⟩, 18) := ⟨⟨by decide +kernel, by decide +kernel⟩, tm_9 149 rfl, tm_13 112 rfl, tm_13 113 rfl⟩
set_option maxRecDepth 100000 in
theorem lw_p137 : lw_okq (⟨"NumberHouseModel$FloatRows", "begin", "()V"⟩, 18) := ⟨⟨by decide +kernel, by decide +kernel⟩, tm_9 149 rfl, tm_13 116 rfl, tm_13 117 rfl⟩
set_option maxRecDepth 100000 in
theorem lw_p138 : lw_okq (⟨"NumberHouseModel$FloatRows", "add", "(I)V"⟩, 18) := ⟨⟨by decide +kernel, by decide +kernel⟩, tm_9 149 rfl, tm_13 120 rfl, tm_13 121 rfl⟩
set_option maxRecDepth 100000 in
theorem lw_p139 : lw_okq (⟨"NumberHouseModel$FloatRows", "figureAt", "(I)I"⟩, 18) := ⟨⟨by decide +kernel, by decide +kernel⟩, tm_9 149 rfl, tm_13 124 rfl, tm_13 125 rfl⟩
set_option maxRecDepth 100000 in
theorem lw_p140 : lw_okq (⟨"NumberHouseModel", "toDecimal", "(III)V"⟩, 12) := ⟨⟨by decide +kernel, by decide +kernel⟩, tm_8 230 rfl, tm_13 128 rfl, tm_13 129 rfl⟩
set_option maxRecDepth 100000 in
theorem lw_p141 : lw_okq (⟨"NumberHouseModel", "show", "([II)I"⟩, 12) := ⟨⟨by decide +kernel, by decide +kernel⟩, tm_8 230 rfl, tm_13 136 rfl, tm_13 137 rfl⟩
set_option maxRecDepth 100000 in
theorem lw_p142 : lw_okq (⟨"NumberHouseModel$FloatRows", "name", "()V"⟩, 18) := ⟨⟨by decide +kernel, by decide +kernel⟩, tm_9 149 rfl, tm_13 144 rfl, tm_13 145 rfl⟩
set_option maxRecDepth 100000 in
theorem lw_p143 : lw_okq (⟨"NumberHouseModel$FloatRows", "shortestTop", "()I"⟩, 18) := ⟨⟨by decide +kernel, by decide +kernel⟩, tm_9 149 rfl, tm_13 150 rfl, tm_13 151 rfl⟩
def lw_privs_9 : List (MethodName × Nat) := [(⟨"NumberHouseModel$DecimalRows", "takesRoot", "(I)Z"⟩, 21), (⟨"NumberHouseModel", "toFloat", "(IIII)V"⟩, 12), (⟨"NumberHouseModel$DecimalRows", "print", "(I)V"⟩, 21), (⟨"NumberHouseModel$DecimalRows", "figures", "(IIII)V"⟩, 21), (⟨"NumberHouseModel$DecimalRows", "exponent", "(I)V"⟩, 21), (⟨"NumberHouseModel", "toWhole", "(III)V"⟩, 12), (⟨"NumberHouseModel", "exact", "(IJI[I)I"⟩, 12), (⟨"NumberHouseModel$FloatRows", "setValue", "()V"⟩, 18), (⟨"NumberHouseModel$FloatRows", "isMore", "(II)Z"⟩, 18), (⟨"NumberHouseModel$FloatRows", "begin", "()V"⟩, 18), (⟨"NumberHouseModel$FloatRows", "add", "(I)V"⟩, 18), (⟨"NumberHouseModel$FloatRows", "figureAt", "(I)I"⟩, 18), (⟨"NumberHouseModel", "toDecimal", "(III)V"⟩, 12), (⟨"NumberHouseModel", "show", "([II)I"⟩, 12), (⟨"NumberHouseModel$FloatRows", "name", "()V"⟩, 18), (⟨"NumberHouseModel$FloatRows", "shortestTop", "()I"⟩, 18)]
theorem lw_r9 : ∀ q ∈ lw_privs_9, lw_okq q := List.forall_mem_cons.mpr ⟨lw_p128, List.forall_mem_cons.mpr ⟨lw_p129, List.forall_mem_cons.mpr ⟨lw_p130, List.forall_mem_cons.mpr ⟨lw_p131, List.forall_mem_cons.mpr ⟨lw_p132, List.forall_mem_cons.mpr ⟨lw_p133, List.forall_mem_cons.mpr ⟨lw_p134, List.forall_mem_cons.mpr ⟨lw_p135, List.forall_mem_cons.mpr ⟨lw_p136, List.forall_mem_cons.mpr ⟨lw_p137, List.forall_mem_cons.mpr ⟨lw_p138, List.forall_mem_cons.mpr ⟨lw_p139, List.forall_mem_cons.mpr ⟨lw_p140, List.forall_mem_cons.mpr ⟨lw_p141, List.forall_mem_cons.mpr ⟨lw_p142, List.forall_mem_cons.mpr ⟨lw_p143, fun _ h => absurd h List.not_mem_nil⟩⟩⟩⟩⟩⟩⟩⟩⟩⟩⟩⟩⟩⟩⟩⟩
set_option maxRecDepth 100000 in
theorem lw_p144 : lw_okq (⟨"NumberHouseModel$FloatRows", "isBelow", "(I)Z"⟩, 18) := ⟨⟨by decide +kernel, by decide +kernel⟩, tm_9 149 rfl, tm_13 155 rfl, tm_13 156 rfl⟩
set_option maxRecDepth 100000 in
theorem lw_p145 : lw_okq (⟨"NumberHouseModel$FloatRows", "figure", "(I)I"⟩, 18) := ⟨⟨by decide +kernel, by decide +kernel⟩, tm_9 149 rfl, tm_13 159 rfl, tm_13 160 rfl⟩
set_option maxRecDepth 100000 in
theorem lw_p146 : lw_okq (⟨"NumberHouseModel$FloatRows", "number", "(I)V"⟩, 18) := ⟨⟨by decide +kernel, by decide +kernel⟩, tm_9 149 rfl, tm_13 163 rfl, tm_13 164 rfl⟩
set_option maxRecDepth 100000 in
theorem lw_p147 : lw_okq (⟨"NumberHouseModel$FloatRows", "hexadecimalFigure", "(J)V"⟩, 18) := ⟨⟨by decide +kernel, by decide +kernel⟩, tm_9 149 rfl, tm_13 172 rfl, tm_13 173 rfl⟩
set_option maxRecDepth 100000 in
theorem lw_p148 : lw_okq (⟨"NumberHouseModel", "numeral", "(II)I"⟩, 12) := ⟨⟨by decide +kernel, by decide +kernel⟩, tm_8 230 rfl, tm_13 190 rfl, tm_13 191 rfl⟩
set_option maxRecDepth 100000 in
theorem lw_p149 : lw_okq (⟨"NumberHouseModel$DirectiveRows", "enter", "(IIJ)I"⟩, 31) := ⟨⟨by decide +kernel, by decide +kernel⟩, tm_10 33 rfl, tm_13 199 rfl, tm_13 200 rfl⟩
set_option maxRecDepth 100000 in
theorem lw_p150 : lw_okq (⟨"NumberHouseModel", "isLong", "(I[J)Z"⟩, 12) := ⟨⟨by decide +kernel, by decide +kernel⟩, tm_8 230 rfl, tm_13 203 rfl, tm_13 204 rfl⟩
set_option maxRecDepth 100000 in
theorem lw_p151 : lw_okq (⟨"NumberHouseModel$DirectiveRows", "run", "()I"⟩, 31) := ⟨⟨by decide +kernel, by decide +kernel⟩, tm_10 33 rfl, tm_13 237 rfl, tm_13 238 rfl⟩
set_option maxRecDepth 100000 in
theorem lw_p152 : lw_okq (⟨"NumberHouseModel$DirectiveRows", "here", "()I"⟩, 31) := ⟨⟨by decide +kernel, by decide +kernel⟩, tm_10 33 rfl, tm_14 1 rfl, tm_14 2 rfl⟩
set_option maxRecDepth 100000 in
theorem lw_p153 : lw_okq (⟨"NumberHouseModel$DirectiveRows", "take", "()V"⟩, 31) := ⟨⟨by decide +kernel, by decide +kernel⟩, tm_10 33 rfl, tm_14 5 rfl, tm_14 6 rfl⟩
set_option maxRecDepth 100000 in
theorem lw_p154 : lw_okq (⟨"NumberHouseModel$DirectiveRows", "isDigit", "()Z"⟩, 31) := ⟨⟨by decide +kernel, by decide +kernel⟩, tm_10 33 rfl, tm_14 9 rfl, tm_14 10 rfl⟩
set_option maxRecDepth 100000 in
theorem lw_p155 : lw_okq (⟨"NumberHouseModel$DirectiveRows", "number", "()I"⟩, 31) := ⟨⟨by decide +kernel, by decide +kernel⟩, tm_10 33 rfl, tm_14 13 rfl, tm_14 14 rfl⟩
set_option maxRecDepth 100000 in
theorem lw_p156 : lw_okq (⟨"NumberHouseModel$DirectiveRows", "has", "(I)Z"⟩, 31) := ⟨⟨by decide +kernel, by decide +kernel⟩, tm_10 33 rfl, tm_14 20 rfl, tm_14 21 rfl⟩
set_option maxRecDepth 100000 in
theorem lw_p157 : lw_okq (⟨"NumberHouseModel$DirectiveRows", "looked", "()I"⟩, 31) := ⟨⟨by decide +kernel, by decide +kernel⟩, tm_10 33 rfl, tm_14 24 rfl, tm_14 25 rfl⟩
set_option maxRecDepth 100000 in
theorem lw_p158 : lw_okq (⟨"NumberHouseModel$DirectiveRows", "small", "()I"⟩, 31) := ⟨⟨by decide +kernel, by decide +kernel⟩, tm_10 33 rfl, tm_14 28 rfl, tm_14 29 rfl⟩
set_option maxRecDepth 100000 in
theorem lw_p159 : lw_okq (⟨"NumberHouseModel$DirectiveRows", "isNumeric", "(I)Z"⟩, 31) := ⟨⟨by decide +kernel, by decide +kernel⟩, tm_10 33 rfl, tm_14 32 rfl, tm_14 33 rfl⟩
def lw_privs_10 : List (MethodName × Nat) := [(⟨"NumberHouseModel$FloatRows", "isBelow", "(I)Z"⟩, 18), (⟨"NumberHouseModel$FloatRows", "figure", "(I)I"⟩, 18), (⟨"NumberHouseModel$FloatRows", "number", "(I)V"⟩, 18), (⟨"NumberHouseModel$FloatRows", "hexadecimalFigure", "(J)V"⟩, 18), (⟨"NumberHouseModel", "numeral", "(II)I"⟩, 12), (⟨"NumberHouseModel$DirectiveRows", "enter", "(IIJ)I"⟩, 31), (⟨"NumberHouseModel", "isLong", "(I[J)Z"⟩, 12), (⟨"NumberHouseModel$DirectiveRows", "run", "()I"⟩, 31), (⟨"NumberHouseModel$DirectiveRows", "here", "()I"⟩, 31), (⟨"NumberHouseModel$DirectiveRows", "take", "()V"⟩, 31), (⟨"NumberHouseModel$DirectiveRows", "isDigit", "()Z"⟩, 31), (⟨"NumberHouseModel$DirectiveRows", "number", "()I"⟩, 31), (⟨"NumberHouseModel$DirectiveRows", "has", "(I)Z"⟩, 31), (⟨"NumberHouseModel$DirectiveRows", "looked", "()I"⟩, 31), (⟨"NumberHouseModel$DirectiveRows", "small", "()I"⟩, 31), (⟨"NumberHouseModel$DirectiveRows", "isNumeric", "(I)Z"⟩, 31)]
theorem lw_r10 : ∀ q ∈ lw_privs_10, lw_okq q := List.forall_mem_cons.mpr ⟨lw_p144, List.forall_mem_cons.mpr ⟨lw_p145, List.forall_mem_cons.mpr ⟨lw_p146, List.forall_mem_cons.mpr ⟨lw_p147, List.forall_mem_cons.mpr ⟨lw_p148, List.forall_mem_cons.mpr ⟨lw_p149, List.forall_mem_cons.mpr ⟨lw_p150, List.forall_mem_cons.mpr ⟨lw_p151, List.forall_mem_cons.mpr ⟨lw_p152, List.forall_mem_cons.mpr ⟨lw_p153, List.forall_mem_cons.mpr ⟨lw_p154, List.forall_mem_cons.mpr ⟨lw_p155, List.forall_mem_cons.mpr ⟨lw_p156, List.forall_mem_cons.mpr ⟨lw_p157, List.forall_mem_cons.mpr ⟨lw_p158, List.forall_mem_cons.mpr ⟨lw_p159, fun _ h => absurd h List.not_mem_nil⟩⟩⟩⟩⟩⟩⟩⟩⟩⟩⟩⟩⟩⟩⟩⟩
set_option maxRecDepth 100000 in
theorem lw_p160 : lw_okq (⟨"NumberHouseModel$DirectiveRows", "chosen", "(I)I"⟩, 31) := ⟨⟨by decide +kernel, by decide +kernel⟩, tm_10 33 rfl, tm_14 39 rfl, tm_14 40 rfl⟩
set_option maxRecDepth 100000 in
theorem lw_p161 : lw_okq (⟨"NumberHouseModel$DirectiveRows", "make", "()V"⟩, 31) := ⟨⟨by decide +kernel, by decide +kernel⟩, tm_10 33 rfl, tm_14 44 rfl, tm_14 45 rfl⟩
set_option maxRecDepth 100000 in
theorem lw_p162 : lw_okq (⟨"NumberHouseModel$DirectiveRows", "put", "(I)V"⟩, 31) := ⟨⟨by decide +kernel, by decide +kernel⟩, tm_10 33 rfl, tm_14 48 rfl, tm_14 49 rfl⟩
set_option maxRecDepth 100000 in
theorem lw_p163 : lw_okq (⟨"NumberHouseModel$DirectiveRows", "word", "(J)V"⟩, 31) := ⟨⟨by decide +kernel, by decide +kernel⟩, tm_10 33 rfl, tm_14 54 rfl, tm_14 55 rfl⟩
set_option maxRecDepth 100000 in
theorem lw_p164 : lw_okq (⟨"NumberHouseModel$DirectiveRows", "string", "()V"⟩, 31) := ⟨⟨by decide +kernel, by decide +kernel⟩, tm_10 33 rfl, tm_14 59 rfl, tm_14 60 rfl⟩
set_option maxRecDepth 100000 in
theorem lw_p165 : lw_okq (⟨"NumberHouseModel$DirectiveRows", "spread", "(JI)V"⟩, 31) := ⟨⟨by decide +kernel, by decide +kernel⟩, tm_10 33 rfl, tm_14 66 rfl, tm_14 67 rfl⟩
set_option maxRecDepth 100000 in
theorem lw_p166 : lw_okq (⟨"NumberHouseModel$DirectiveRows", "plain", "(I)V"⟩, 31) := ⟨⟨by decide +kernel, by decide +kernel⟩, tm_10 33 rfl, tm_14 71 rfl, tm_14 72 rfl⟩
set_option maxRecDepth 100000 in
theorem lw_p167 : lw_okq (⟨"NumberHouseModel$DirectiveRows", "figureAt", "(I)I"⟩, 31) := ⟨⟨by decide +kernel, by decide +kernel⟩, tm_10 33 rfl, tm_14 75 rfl, tm_14 76 rfl⟩
set_option maxRecDepth 100000 in
theorem lw_p168 : lw_okq (⟨"NumberHouseModel$DirectiveRows", "numeric", "(I)V"⟩, 31) := ⟨⟨by decide +kernel, by decide +kernel⟩, tm_10 33 rfl, tm_14 79 rfl, tm_14 80 rfl⟩
set_option maxRecDepth 100000 in
theorem lw_p169 : lw_okq (⟨"NumberHouseModel$DirectiveRows", "decimal", "(I)V"⟩, 31) := ⟨⟨by decide +kernel, by decide +kernel⟩, tm_10 33 rfl, tm_14 85 rfl, tm_14 86 rfl⟩
set_option maxRecDepth 100000 in
theorem lw_p170 : lw_okq (⟨"NumberHouseModel$DirectiveRows", "fixed", "(I)V"⟩, 31) := ⟨⟨by decide +kernel, by decide +kernel⟩, tm_10 33 rfl, tm_14 89 rfl, tm_14 90 rfl⟩
set_option maxRecDepth 100000 in
theorem lw_p171 : lw_okq (⟨"NumberHouseModel$DirectiveRows", "keep", "(I)V"⟩, 31) := ⟨⟨by decide +kernel, by decide +kernel⟩, tm_10 33 rfl, tm_14 93 rfl, tm_14 94 rfl⟩
set_option maxRecDepth 100000 in
theorem lw_p172 : lw_okq (⟨"NumberHouseModel$DirectiveRows", "exponential", "(I)V"⟩, 31) := ⟨⟨by decide +kernel, by decide +kernel⟩, tm_10 33 rfl, tm_14 97 rfl, tm_14 98 rfl⟩
set_option maxRecDepth 100000 in
theorem lw_p173 : lw_okq (⟨"NumberHouseModel$DirectiveRows", "isZero", "()Z"⟩, 31) := ⟨⟨by decide +kernel, by decide +kernel⟩, tm_10 33 rfl, tm_14 101 rfl, tm_14 102 rfl⟩
set_option maxRecDepth 100000 in
theorem lw_p174 : lw_okq (⟨"NumberHouseModel$DirectiveRows", "general", "(I)V"⟩, 31) := ⟨⟨by decide +kernel, by decide +kernel⟩, tm_10 33 rfl, tm_14 105 rfl, tm_14 106 rfl⟩
set_option maxRecDepth 100000 in
theorem lw_p175 : lw_okq (⟨"NumberHouseModel$DirectiveRows", "widen", "()V"⟩, 31) := ⟨⟨by decide +kernel, by decide +kernel⟩, tm_10 33 rfl, tm_14 109 rfl, tm_14 110 rfl⟩
def lw_privs_11 : List (MethodName × Nat) := [(⟨"NumberHouseModel$DirectiveRows", "chosen", "(I)I"⟩, 31), (⟨"NumberHouseModel$DirectiveRows", "make", "()V"⟩, 31), (⟨"NumberHouseModel$DirectiveRows", "put", "(I)V"⟩, 31), (⟨"NumberHouseModel$DirectiveRows", "word", "(J)V"⟩, 31), (⟨"NumberHouseModel$DirectiveRows", "string", "()V"⟩, 31), (⟨"NumberHouseModel$DirectiveRows", "spread", "(JI)V"⟩, 31), (⟨"NumberHouseModel$DirectiveRows", "plain", "(I)V"⟩, 31), (⟨"NumberHouseModel$DirectiveRows", "figureAt", "(I)I"⟩, 31), (⟨"NumberHouseModel$DirectiveRows", "numeric", "(I)V"⟩, 31), (⟨"NumberHouseModel$DirectiveRows", "decimal", "(I)V"⟩, 31), (⟨"NumberHouseModel$DirectiveRows", "fixed", "(I)V"⟩, 31), (⟨"NumberHouseModel$DirectiveRows", "keep", "(I)V"⟩, 31), (⟨"NumberHouseModel$DirectiveRows", "exponential", "(I)V"⟩, 31), (⟨"NumberHouseModel$DirectiveRows", "isZero", "()Z"⟩, 31), (⟨"NumberHouseModel$DirectiveRows", "general", "(I)V"⟩, 31), (⟨"NumberHouseModel$DirectiveRows", "widen", "()V"⟩, 31)]
theorem lw_r11 : ∀ q ∈ lw_privs_11, lw_okq q := List.forall_mem_cons.mpr ⟨lw_p160, List.forall_mem_cons.mpr ⟨lw_p161, List.forall_mem_cons.mpr ⟨lw_p162, List.forall_mem_cons.mpr ⟨lw_p163, List.forall_mem_cons.mpr ⟨lw_p164, List.forall_mem_cons.mpr ⟨lw_p165, List.forall_mem_cons.mpr ⟨lw_p166, List.forall_mem_cons.mpr ⟨lw_p167, List.forall_mem_cons.mpr ⟨lw_p168, List.forall_mem_cons.mpr ⟨lw_p169, List.forall_mem_cons.mpr ⟨lw_p170, List.forall_mem_cons.mpr ⟨lw_p171, List.forall_mem_cons.mpr ⟨lw_p172, List.forall_mem_cons.mpr ⟨lw_p173, List.forall_mem_cons.mpr ⟨lw_p174, List.forall_mem_cons.mpr ⟨lw_p175, fun _ h => absurd h List.not_mem_nil⟩⟩⟩⟩⟩⟩⟩⟩⟩⟩⟩⟩⟩⟩⟩⟩
def lw_privs : List (MethodName × Nat) := lw_privs_1 ++ (lw_privs_2 ++ (lw_privs_3 ++ (lw_privs_4 ++ (lw_privs_5 ++ (lw_privs_6 ++ (lw_privs_7 ++ (lw_privs_8 ++ (lw_privs_9 ++ (lw_privs_10 ++ (lw_privs_11))))))))))
def lw_tbl : List Cond := k2_sels lw_privs ++ tables_1
theorem lw_privs_ok : ∀ q ∈ lw_privs, lw_okq q := by
  show ∀ q ∈ lw_privs_1 ++ (lw_privs_2 ++ (lw_privs_3 ++ (lw_privs_4 ++ (lw_privs_5 ++ (lw_privs_6 ++ (lw_privs_7 ++ (lw_privs_8 ++ (lw_privs_9 ++ (lw_privs_10 ++ (lw_privs_11)))))))))), lw_okq q
  exact List.forall_mem_append.mpr ⟨lw_r1, List.forall_mem_append.mpr ⟨lw_r2, List.forall_mem_append.mpr ⟨lw_r3, List.forall_mem_append.mpr ⟨lw_r4, List.forall_mem_append.mpr ⟨lw_r5, List.forall_mem_append.mpr ⟨lw_r6, List.forall_mem_append.mpr ⟨lw_r7, List.forall_mem_append.mpr ⟨lw_r8, List.forall_mem_append.mpr ⟨lw_r9, List.forall_mem_append.mpr ⟨lw_r10, lw_r11⟩⟩⟩⟩⟩⟩⟩⟩⟩⟩
-- ===== end of PART A; then your names; then what follows =====

