section
-- ===== PART A: goes FIRST, ahead of the names: the tables' words, and 'selects' of the private methods out of them =====
/-- a private method of a class that the tables say can be made, by its rows of tables_1 -/
def lw_okq (q : MethodName × Nat) : Prop := (q.1.cls ≠ "java/lang/invoke/MethodHandle" ∧ q.1.cls ≠ "java/lang/invoke/VarHandle") ∧ Cond.instantiable q.1.cls q.2 ∈ tables_1 ∧ Cond.privateMethod q.1 ∈ tables_1 ∧ Cond.instanceMethod q.1 ∈ tables_1
theorem lw_p0 : lw_okq (⟨"DaysBag$Reader", "clause", "()Z"⟩, 10) := ⟨⟨by decide +kernel, by decide +kernel⟩, List.mem_of_getElem? (i := 117) (by decide +kernel), List.mem_of_getElem? (i := 239) (by decide +kernel), List.mem_of_getElem? (i := 240) (by decide +kernel)⟩
theorem lw_p1 : lw_okq (⟨"DaysBag$Reader", "sees", "(C)Z"⟩, 10) := ⟨⟨by decide +kernel, by decide +kernel⟩, List.mem_of_getElem? (i := 117) (by decide +kernel), List.mem_of_getElem? (i := 243) (by decide +kernel), List.mem_of_getElem? (i := 244) (by decide +kernel)⟩
theorem lw_p2 : lw_okq (⟨"DaysBag$Reader", "payClause", "()Z"⟩, 10) := ⟨⟨by decide +kernel, by decide +kernel⟩, List.mem_of_getElem? (i := 117) (by decide +kernel), List.mem_of_getElem? (i := 247) (by decide +kernel), List.mem_of_getElem? (i := 248) (by decide +kernel)⟩
theorem lw_p3 : lw_okq (⟨"DaysBag$Reader", "eatsAll", "(Ljava/lang/String;)Z"⟩, 10) := ⟨⟨by decide +kernel, by decide +kernel⟩, List.mem_of_getElem? (i := 117) (by decide +kernel), List.mem_of_getElem? (i := 252) (by decide +kernel), List.mem_of_getElem? (i := 253) (by decide +kernel)⟩
theorem lw_p4 : lw_okq (⟨"DaysBag$Reader", "eats", "(C)Z"⟩, 10) := ⟨⟨by decide +kernel, by decide +kernel⟩, List.mem_of_getElem? (i := 117) (by decide +kernel), List.mem_of_getElem? (i := 304) (by decide +kernel), List.mem_of_getElem? (i := 305) (by decide +kernel)⟩
theorem lw_p5 : lw_okq (⟨"DaysBag$Reader", "eatsOneOf", "(Ljava/lang/String;)I"⟩, 10) := ⟨⟨by decide +kernel, by decide +kernel⟩, List.mem_of_getElem? (i := 117) (by decide +kernel), List.mem_of_getElem? (i := 309) (by decide +kernel), List.mem_of_getElem? (i := 310) (by decide +kernel)⟩
theorem lw_p6 : lw_okq (⟨"DaysBag$Reader", "number", "()I"⟩, 10) := ⟨⟨by decide +kernel, by decide +kernel⟩, List.mem_of_getElem? (i := 117) (by decide +kernel), List.mem_of_getElem? (i := 372) (by decide +kernel), List.mem_of_getElem? (i := 373) (by decide +kernel)⟩
theorem lw_p7 : lw_okq (⟨"DaysBag$Reader", "canClause", "()Z"⟩, 10) := ⟨⟨by decide +kernel, by decide +kernel⟩, List.mem_of_getElem? (i := 117) (by decide +kernel), List.mem_of_getElem? (i := 377) (by decide +kernel), List.mem_of_getElem? (i := 378) (by decide +kernel)⟩
theorem lw_p8 : lw_okq (⟨"DaysBag$Reader", "either", "(I)Z"⟩, 10) := ⟨⟨by decide +kernel, by decide +kernel⟩, List.mem_of_getElem? (i := 117) (by decide +kernel), List.mem_of_getElem? (i := 382) (by decide +kernel), List.mem_of_getElem? (i := 383) (by decide +kernel)⟩
theorem lw_p9 : lw_okq (⟨"DaysBag$Reader", "both", "(I)Z"⟩, 10) := ⟨⟨by decide +kernel, by decide +kernel⟩, List.mem_of_getElem? (i := 117) (by decide +kernel), List.mem_of_getElem? (i := 386) (by decide +kernel), List.mem_of_getElem? (i := 387) (by decide +kernel)⟩
theorem lw_p10 : lw_okq (⟨"DaysBag$Reader", "factor", "(I)Z"⟩, 10) := ⟨⟨by decide +kernel, by decide +kernel⟩, List.mem_of_getElem? (i := 117) (by decide +kernel), List.mem_of_getElem? (i := 390) (by decide +kernel), List.mem_of_getElem? (i := 391) (by decide +kernel)⟩
theorem lw_p11 : lw_okq (⟨"DaysBag$Reader", "testing", "()Z"⟩, 10) := ⟨⟨by decide +kernel, by decide +kernel⟩, List.mem_of_getElem? (i := 117) (by decide +kernel), List.mem_of_getElem? (i := 394) (by decide +kernel), List.mem_of_getElem? (i := 395) (by decide +kernel)⟩
theorem lw_p12 : lw_okq (⟨"DaysBag$Reader", "emit", "(I)V"⟩, 10) := ⟨⟨by decide +kernel, by decide +kernel⟩, List.mem_of_getElem? (i := 117) (by decide +kernel), List.mem_of_getElem? (i := 403) (by decide +kernel), List.mem_of_getElem? (i := 404) (by decide +kernel)⟩
theorem lw_p13 : lw_okq (⟨"DaysBag$Reader", "coverClause", "()Z"⟩, 10) := ⟨⟨by decide +kernel, by decide +kernel⟩, List.mem_of_getElem? (i := 117) (by decide +kernel), List.mem_of_getElem? (i := 407) (by decide +kernel), List.mem_of_getElem? (i := 408) (by decide +kernel)⟩
theorem lw_p14 : lw_okq (⟨"DaysBag", "workerAt", "(I)LDaysBag$Worker;"⟩, 7) := ⟨⟨by decide +kernel, by decide +kernel⟩, List.mem_of_getElem? (i := 23) (by decide +kernel), List.mem_of_getElem? (i := 551) (by decide +kernel), List.mem_of_getElem? (i := 552) (by decide +kernel)⟩
theorem lw_p15 : lw_okq (⟨"DaysBag", "workNow", "(LDaysBag$Worker;I)I"⟩, 7) := ⟨⟨by decide +kernel, by decide +kernel⟩, List.mem_of_getElem? (i := 23) (by decide +kernel), List.mem_of_getElem? (i := 569) (by decide +kernel), List.mem_of_getElem? (i := 570) (by decide +kernel)⟩
def lw_privs_1 : List (MethodName × Nat) := [(⟨"DaysBag$Reader", "clause", "()Z"⟩, 10), (⟨"DaysBag$Reader", "sees", "(C)Z"⟩, 10), (⟨"DaysBag$Reader", "payClause", "()Z"⟩, 10), (⟨"DaysBag$Reader", "eatsAll", "(Ljava/lang/String;)Z"⟩, 10), (⟨"DaysBag$Reader", "eats", "(C)Z"⟩, 10), (⟨"DaysBag$Reader", "eatsOneOf", "(Ljava/lang/String;)I"⟩, 10), (⟨"DaysBag$Reader", "number", "()I"⟩, 10), (⟨"DaysBag$Reader", "canClause", "()Z"⟩, 10), (⟨"DaysBag$Reader", "either", "(I)Z"⟩, 10), (⟨"DaysBag$Reader", "both", "(I)Z"⟩, 10), (⟨"DaysBag$Reader", "factor", "(I)Z"⟩, 10), (⟨"DaysBag$Reader", "testing", "()Z"⟩, 10), (⟨"DaysBag$Reader", "emit", "(I)V"⟩, 10), (⟨"DaysBag$Reader", "coverClause", "()Z"⟩, 10), (⟨"DaysBag", "workerAt", "(I)LDaysBag$Worker;"⟩, 7), (⟨"DaysBag", "workNow", "(LDaysBag$Worker;I)I"⟩, 7)]
theorem lw_r1 : ∀ q ∈ lw_privs_1, lw_okq q := List.forall_mem_cons.mpr ⟨lw_p0, List.forall_mem_cons.mpr ⟨lw_p1, List.forall_mem_cons.mpr ⟨lw_p2, List.forall_mem_cons.mpr ⟨lw_p3, List.forall_mem_cons.mpr ⟨lw_p4, List.forall_mem_cons.mpr ⟨lw_p5, List.forall_mem_cons.mpr ⟨lw_p6, List.forall_mem_cons.mpr ⟨lw_p7, List.forall_mem_cons.mpr ⟨lw_p8, List.forall_mem_cons.mpr ⟨lw_p9, List.forall_mem_cons.mpr ⟨lw_p10, List.forall_mem_cons.mpr ⟨lw_p11, List.forall_mem_cons.mpr ⟨lw_p12, List.forall_mem_cons.mpr ⟨lw_p13, List.forall_mem_cons.mpr ⟨lw_p14, List.forall_mem_cons.mpr ⟨lw_p15, fun _ h => absurd h List.not_mem_nil⟩⟩⟩⟩⟩⟩⟩⟩⟩⟩⟩⟩⟩⟩⟩⟩
theorem lw_p16 : lw_okq (⟨"DaysBag$Ahead", "bestWork", "(II)I"⟩, 10) := ⟨⟨by decide +kernel, by decide +kernel⟩, List.mem_of_getElem? (i := 154) (by decide +kernel), List.mem_of_getElem? (i := 590) (by decide +kernel), List.mem_of_getElem? (i := 591) (by decide +kernel)⟩
theorem lw_p17 : lw_okq (⟨"DaysBag$Valley", "holds", "(II[I)Z"⟩, 5) := ⟨⟨by decide +kernel, by decide +kernel⟩, List.mem_of_getElem? (i := 31) (by decide +kernel), List.mem_of_getElem? (i := 602) (by decide +kernel), List.mem_of_getElem? (i := 603) (by decide +kernel)⟩
theorem lw_p18 : lw_okq (⟨"DaysBag$Ahead", "bestOn", "(II)I"⟩, 10) := ⟨⟨by decide +kernel, by decide +kernel⟩, List.mem_of_getElem? (i := 154) (by decide +kernel), List.mem_of_getElem? (i := 608) (by decide +kernel), List.mem_of_getElem? (i := 609) (by decide +kernel)⟩
theorem lw_p19 : lw_okq (⟨"DaysBag$Ahead", "bestSum", "(I)I"⟩, 10) := ⟨⟨by decide +kernel, by decide +kernel⟩, List.mem_of_getElem? (i := 154) (by decide +kernel), List.mem_of_getElem? (i := 612) (by decide +kernel), List.mem_of_getElem? (i := 613) (by decide +kernel)⟩
theorem lw_p20 : lw_okq (⟨"DaysBag$Ahead", "place", "(I)I"⟩, 10) := ⟨⟨by decide +kernel, by decide +kernel⟩, List.mem_of_getElem? (i := 154) (by decide +kernel), List.mem_of_getElem? (i := 616) (by decide +kernel), List.mem_of_getElem? (i := 617) (by decide +kernel)⟩
theorem lw_p21 : lw_okq (⟨"DaysBag$Ahead", "back", "(I)V"⟩, 10) := ⟨⟨by decide +kernel, by decide +kernel⟩, List.mem_of_getElem? (i := 154) (by decide +kernel), List.mem_of_getElem? (i := 621) (by decide +kernel), List.mem_of_getElem? (i := 622) (by decide +kernel)⟩
theorem lw_p22 : lw_okq (⟨"DaysBag$Ahead", "worth", "(II)I"⟩, 10) := ⟨⟨by decide +kernel, by decide +kernel⟩, List.mem_of_getElem? (i := 154) (by decide +kernel), List.mem_of_getElem? (i := 628) (by decide +kernel), List.mem_of_getElem? (i := 629) (by decide +kernel)⟩
theorem lw_p23 : lw_okq (⟨"DaysBag$Ahead", "paidOn", "(II)I"⟩, 10) := ⟨⟨by decide +kernel, by decide +kernel⟩, List.mem_of_getElem? (i := 154) (by decide +kernel), List.mem_of_getElem? (i := 632) (by decide +kernel), List.mem_of_getElem? (i := 633) (by decide +kernel)⟩
theorem lw_p24 : lw_okq (⟨"DaysBag$Ahead", "ownSum", "(LDaysBag$Worker;II)I"⟩, 10) := ⟨⟨by decide +kernel, by decide +kernel⟩, List.mem_of_getElem? (i := 154) (by decide +kernel), List.mem_of_getElem? (i := 754) (by decide +kernel), List.mem_of_getElem? (i := 755) (by decide +kernel)⟩
theorem lw_p25 : lw_okq (⟨"DaysBag$Ahead", "mostPaid", "(I)I"⟩, 10) := ⟨⟨by decide +kernel, by decide +kernel⟩, List.mem_of_getElem? (i := 154) (by decide +kernel), List.mem_of_getElem? (i := 781) (by decide +kernel), List.mem_of_getElem? (i := 782) (by decide +kernel)⟩
theorem lw_p26 : lw_okq (⟨"DaysBag$Ahead", "mostOn", "(II)I"⟩, 10) := ⟨⟨by decide +kernel, by decide +kernel⟩, List.mem_of_getElem? (i := 154) (by decide +kernel), List.mem_of_getElem? (i := 785) (by decide +kernel), List.mem_of_getElem? (i := 786) (by decide +kernel)⟩
theorem lw_p27 : lw_okq (⟨"DaysBag", "ordersByBook", "([I)I"⟩, 7) := ⟨⟨by decide +kernel, by decide +kernel⟩, List.mem_of_getElem? (i := 23) (by decide +kernel), List.mem_of_getElem? (i := 817) (by decide +kernel), List.mem_of_getElem? (i := 818) (by decide +kernel)⟩
theorem lw_p28 : lw_okq (⟨"DaysBagModel", "clauseHere", "()V"⟩, 33) := ⟨⟨by decide +kernel, by decide +kernel⟩, List.mem_of_getElem? (i := 949) (by decide +kernel), List.mem_of_getElem? (i := 1074) (by decide +kernel), List.mem_of_getElem? (i := 1075) (by decide +kernel)⟩
theorem lw_p29 : lw_okq (⟨"DaysBagModel", "here", "()I"⟩, 33) := ⟨⟨by decide +kernel, by decide +kernel⟩, List.mem_of_getElem? (i := 949) (by decide +kernel), List.mem_of_getElem? (i := 1078) (by decide +kernel), List.mem_of_getElem? (i := 1079) (by decide +kernel)⟩
theorem lw_p30 : lw_okq (⟨"DaysBagModel", "clauseOfC", "()V"⟩, 33) := ⟨⟨by decide +kernel, by decide +kernel⟩, List.mem_of_getElem? (i := 949) (by decide +kernel), List.mem_of_getElem? (i := 1082) (by decide +kernel), List.mem_of_getElem? (i := 1083) (by decide +kernel)⟩
theorem lw_p31 : lw_okq (⟨"DaysBagModel", "must", "(I)V"⟩, 33) := ⟨⟨by decide +kernel, by decide +kernel⟩, List.mem_of_getElem? (i := 949) (by decide +kernel), List.mem_of_getElem? (i := 1086) (by decide +kernel), List.mem_of_getElem? (i := 1087) (by decide +kernel)⟩
def lw_privs_2 : List (MethodName × Nat) := [(⟨"DaysBag$Ahead", "bestWork", "(II)I"⟩, 10), (⟨"DaysBag$Valley", "holds", "(II[I)Z"⟩, 5), (⟨"DaysBag$Ahead", "bestOn", "(II)I"⟩, 10), (⟨"DaysBag$Ahead", "bestSum", "(I)I"⟩, 10), (⟨"DaysBag$Ahead", "place", "(I)I"⟩, 10), (⟨"DaysBag$Ahead", "back", "(I)V"⟩, 10), (⟨"DaysBag$Ahead", "worth", "(II)I"⟩, 10), (⟨"DaysBag$Ahead", "paidOn", "(II)I"⟩, 10), (⟨"DaysBag$Ahead", "ownSum", "(LDaysBag$Worker;II)I"⟩, 10), (⟨"DaysBag$Ahead", "mostPaid", "(I)I"⟩, 10), (⟨"DaysBag$Ahead", "mostOn", "(II)I"⟩, 10), (⟨"DaysBag", "ordersByBook", "([I)I"⟩, 7), (⟨"DaysBagModel", "clauseHere", "()V"⟩, 33), (⟨"DaysBagModel", "here", "()I"⟩, 33), (⟨"DaysBagModel", "clauseOfC", "()V"⟩, 33), (⟨"DaysBagModel", "must", "(I)V"⟩, 33)]
theorem lw_r2 : ∀ q ∈ lw_privs_2, lw_okq q := List.forall_mem_cons.mpr ⟨lw_p16, List.forall_mem_cons.mpr ⟨lw_p17, List.forall_mem_cons.mpr ⟨lw_p18, List.forall_mem_cons.mpr ⟨lw_p19, List.forall_mem_cons.mpr ⟨lw_p20, List.forall_mem_cons.mpr ⟨lw_p21, List.forall_mem_cons.mpr ⟨lw_p22, List.forall_mem_cons.mpr ⟨lw_p23, List.forall_mem_cons.mpr ⟨lw_p24, List.forall_mem_cons.mpr ⟨lw_p25, List.forall_mem_cons.mpr ⟨lw_p26, List.forall_mem_cons.mpr ⟨lw_p27, List.forall_mem_cons.mpr ⟨lw_p28, List.forall_mem_cons.mpr ⟨lw_p29, List.forall_mem_cons.mpr ⟨lw_p30, List.forall_mem_cons.mpr ⟨lw_p31, fun _ h => absurd h List.not_mem_nil⟩⟩⟩⟩⟩⟩⟩⟩⟩⟩⟩⟩⟩⟩⟩⟩
theorem lw_p32 : lw_okq (⟨"DaysBagModel", "spells", "(Ljava/lang/String;)V"⟩, 33) := ⟨⟨by decide +kernel, by decide +kernel⟩, List.mem_of_getElem? (i := 949) (by decide +kernel), List.mem_of_getElem? (i := 1091) (by decide +kernel), List.mem_of_getElem? (i := 1092) (by decide +kernel)⟩
theorem lw_p33 : lw_okq (⟨"DaysBagModel", "figures", "()I"⟩, 33) := ⟨⟨by decide +kernel, by decide +kernel⟩, List.mem_of_getElem? (i := 949) (by decide +kernel), List.mem_of_getElem? (i := 1097) (by decide +kernel), List.mem_of_getElem? (i := 1098) (by decide +kernel)⟩
theorem lw_p34 : lw_okq (⟨"DaysBagModel", "workHere", "()I"⟩, 33) := ⟨⟨by decide +kernel, by decide +kernel⟩, List.mem_of_getElem? (i := 949) (by decide +kernel), List.mem_of_getElem? (i := 1102) (by decide +kernel), List.mem_of_getElem? (i := 1103) (by decide +kernel)⟩
theorem lw_p35 : lw_okq (⟨"DaysBagModel", "some", "()V"⟩, 33) := ⟨⟨by decide +kernel, by decide +kernel⟩, List.mem_of_getElem? (i := 949) (by decide +kernel), List.mem_of_getElem? (i := 1106) (by decide +kernel), List.mem_of_getElem? (i := 1107) (by decide +kernel)⟩
theorem lw_p36 : lw_okq (⟨"DaysBagModel", "every", "()V"⟩, 33) := ⟨⟨by decide +kernel, by decide +kernel⟩, List.mem_of_getElem? (i := 949) (by decide +kernel), List.mem_of_getElem? (i := 1110) (by decide +kernel), List.mem_of_getElem? (i := 1111) (by decide +kernel)⟩
theorem lw_p37 : lw_okq (⟨"DaysBagModel", "factor", "()V"⟩, 33) := ⟨⟨by decide +kernel, by decide +kernel⟩, List.mem_of_getElem? (i := 949) (by decide +kernel), List.mem_of_getElem? (i := 1114) (by decide +kernel), List.mem_of_getElem? (i := 1115) (by decide +kernel)⟩
theorem lw_p38 : lw_okq (⟨"DaysBagModel", "emits", "(I)V"⟩, 33) := ⟨⟨by decide +kernel, by decide +kernel⟩, List.mem_of_getElem? (i := 949) (by decide +kernel), List.mem_of_getElem? (i := 1118) (by decide +kernel), List.mem_of_getElem? (i := 1119) (by decide +kernel)⟩
theorem lw_p39 : lw_okq (⟨"DaysBagModel", "among", "(Ljava/lang/String;)I"⟩, 33) := ⟨⟨by decide +kernel, by decide +kernel⟩, List.mem_of_getElem? (i := 949) (by decide +kernel), List.mem_of_getElem? (i := 1123) (by decide +kernel), List.mem_of_getElem? (i := 1124) (by decide +kernel)⟩
theorem lw_p40 : lw_okq (⟨"DaysBagModel", "payHere", "()V"⟩, 33) := ⟨⟨by decide +kernel, by decide +kernel⟩, List.mem_of_getElem? (i := 949) (by decide +kernel), List.mem_of_getElem? (i := 1128) (by decide +kernel), List.mem_of_getElem? (i := 1129) (by decide +kernel)⟩
theorem lw_p41 : lw_okq (⟨"DaysBagModel", "coverTold", "()I"⟩, 33) := ⟨⟨by decide +kernel, by decide +kernel⟩, List.mem_of_getElem? (i := 949) (by decide +kernel), List.mem_of_getElem? (i := 1137) (by decide +kernel), List.mem_of_getElem? (i := 1138) (by decide +kernel)⟩
theorem lw_p42 : lw_okq (⟨"DaysBagModel", "rest", "()I"⟩, 33) := ⟨⟨by decide +kernel, by decide +kernel⟩, List.mem_of_getElem? (i := 949) (by decide +kernel), List.mem_of_getElem? (i := 1141) (by decide +kernel), List.mem_of_getElem? (i := 1142) (by decide +kernel)⟩
theorem lw_p43 : lw_okq (⟨"DaysBagModel", "pay", "(I)I"⟩, 33) := ⟨⟨by decide +kernel, by decide +kernel⟩, List.mem_of_getElem? (i := 949) (by decide +kernel), List.mem_of_getElem? (i := 1145) (by decide +kernel), List.mem_of_getElem? (i := 1146) (by decide +kernel)⟩
theorem lw_p44 : lw_okq (⟨"DaysBagModel", "isWorker", "(I)Z"⟩, 33) := ⟨⟨by decide +kernel, by decide +kernel⟩, List.mem_of_getElem? (i := 949) (by decide +kernel), List.mem_of_getElem? (i := 1164) (by decide +kernel), List.mem_of_getElem? (i := 1165) (by decide +kernel)⟩
theorem lw_p45 : lw_okq (⟨"DaysBagModel", "looks", "()V"⟩, 33) := ⟨⟨by decide +kernel, by decide +kernel⟩, List.mem_of_getElem? (i := 949) (by decide +kernel), List.mem_of_getElem? (i := 1172) (by decide +kernel), List.mem_of_getElem? (i := 1173) (by decide +kernel)⟩
theorem lw_p46 : lw_okq (⟨"DaysBagModel", "asksFromNow", "()V"⟩, 33) := ⟨⟨by decide +kernel, by decide +kernel⟩, List.mem_of_getElem? (i := 949) (by decide +kernel), List.mem_of_getElem? (i := 1176) (by decide +kernel), List.mem_of_getElem? (i := 1177) (by decide +kernel)⟩
theorem lw_p47 : lw_okq (⟨"DaysBagModel", "stateNow", "()I"⟩, 33) := ⟨⟨by decide +kernel, by decide +kernel⟩, List.mem_of_getElem? (i := 949) (by decide +kernel), List.mem_of_getElem? (i := 1180) (by decide +kernel), List.mem_of_getElem? (i := 1181) (by decide +kernel)⟩
def lw_privs_3 : List (MethodName × Nat) := [(⟨"DaysBagModel", "spells", "(Ljava/lang/String;)V"⟩, 33), (⟨"DaysBagModel", "figures", "()I"⟩, 33), (⟨"DaysBagModel", "workHere", "()I"⟩, 33), (⟨"DaysBagModel", "some", "()V"⟩, 33), (⟨"DaysBagModel", "every", "()V"⟩, 33), (⟨"DaysBagModel", "factor", "()V"⟩, 33), (⟨"DaysBagModel", "emits", "(I)V"⟩, 33), (⟨"DaysBagModel", "among", "(Ljava/lang/String;)I"⟩, 33), (⟨"DaysBagModel", "payHere", "()V"⟩, 33), (⟨"DaysBagModel", "coverTold", "()I"⟩, 33), (⟨"DaysBagModel", "rest", "()I"⟩, 33), (⟨"DaysBagModel", "pay", "(I)I"⟩, 33), (⟨"DaysBagModel", "isWorker", "(I)Z"⟩, 33), (⟨"DaysBagModel", "looks", "()V"⟩, 33), (⟨"DaysBagModel", "asksFromNow", "()V"⟩, 33), (⟨"DaysBagModel", "stateNow", "()I"⟩, 33)]
theorem lw_r3 : ∀ q ∈ lw_privs_3, lw_okq q := List.forall_mem_cons.mpr ⟨lw_p32, List.forall_mem_cons.mpr ⟨lw_p33, List.forall_mem_cons.mpr ⟨lw_p34, List.forall_mem_cons.mpr ⟨lw_p35, List.forall_mem_cons.mpr ⟨lw_p36, List.forall_mem_cons.mpr ⟨lw_p37, List.forall_mem_cons.mpr ⟨lw_p38, List.forall_mem_cons.mpr ⟨lw_p39, List.forall_mem_cons.mpr ⟨lw_p40, List.forall_mem_cons.mpr ⟨lw_p41, List.forall_mem_cons.mpr ⟨lw_p42, List.forall_mem_cons.mpr ⟨lw_p43, List.forall_mem_cons.mpr ⟨lw_p44, List.forall_mem_cons.mpr ⟨lw_p45, List.forall_mem_cons.mpr ⟨lw_p46, List.forall_mem_cons.mpr ⟨lw_p47, fun _ h => absurd h List.not_mem_nil⟩⟩⟩⟩⟩⟩⟩⟩⟩⟩⟩⟩⟩⟩⟩⟩
theorem lw_p48 : lw_okq (⟨"DaysBagModel", "doesOn", "(III)I"⟩, 33) := ⟨⟨by decide +kernel, by decide +kernel⟩, List.mem_of_getElem? (i := 949) (by decide +kernel), List.mem_of_getElem? (i := 1190) (by decide +kernel), List.mem_of_getElem? (i := 1191) (by decide +kernel)⟩
theorem lw_p49 : lw_okq (⟨"DaysBagModel", "plainly", "(II)I"⟩, 33) := ⟨⟨by decide +kernel, by decide +kernel⟩, List.mem_of_getElem? (i := 949) (by decide +kernel), List.mem_of_getElem? (i := 1194) (by decide +kernel), List.mem_of_getElem? (i := 1195) (by decide +kernel)⟩
theorem lw_p50 : lw_okq (⟨"DaysBagModel", "can", "(III)Z"⟩, 33) := ⟨⟨by decide +kernel, by decide +kernel⟩, List.mem_of_getElem? (i := 949) (by decide +kernel), List.mem_of_getElem? (i := 1198) (by decide +kernel), List.mem_of_getElem? (i := 1199) (by decide +kernel)⟩
theorem lw_p51 : lw_okq (⟨"DaysBagModel", "canOn", "(III)Z"⟩, 33) := ⟨⟨by decide +kernel, by decide +kernel⟩, List.mem_of_getElem? (i := 949) (by decide +kernel), List.mem_of_getElem? (i := 1211) (by decide +kernel), List.mem_of_getElem? (i := 1212) (by decide +kernel)⟩
theorem lw_p52 : lw_okq (⟨"DaysBagModel", "leftOne", "(II)I"⟩, 33) := ⟨⟨by decide +kernel, by decide +kernel⟩, List.mem_of_getElem? (i := 949) (by decide +kernel), List.mem_of_getElem? (i := 1215) (by decide +kernel), List.mem_of_getElem? (i := 1216) (by decide +kernel)⟩
theorem lw_p53 : lw_okq (⟨"DaysBagModel", "waiting", "(III)I"⟩, 33) := ⟨⟨by decide +kernel, by decide +kernel⟩, List.mem_of_getElem? (i := 949) (by decide +kernel), List.mem_of_getElem? (i := 1219) (by decide +kernel), List.mem_of_getElem? (i := 1220) (by decide +kernel)⟩
theorem lw_p54 : lw_okq (⟨"DaysBagModel", "surely", "(II)I"⟩, 33) := ⟨⟨by decide +kernel, by decide +kernel⟩, List.mem_of_getElem? (i := 949) (by decide +kernel), List.mem_of_getElem? (i := 1223) (by decide +kernel), List.mem_of_getElem? (i := 1224) (by decide +kernel)⟩
theorem lw_p55 : lw_okq (⟨"DaysBagModel", "bestly", "(II)I"⟩, 33) := ⟨⟨by decide +kernel, by decide +kernel⟩, List.mem_of_getElem? (i := 949) (by decide +kernel), List.mem_of_getElem? (i := 1227) (by decide +kernel), List.mem_of_getElem? (i := 1228) (by decide +kernel)⟩
theorem lw_p56 : lw_okq (⟨"DaysBagModel", "bestOn", "(II)J"⟩, 33) := ⟨⟨by decide +kernel, by decide +kernel⟩, List.mem_of_getElem? (i := 949) (by decide +kernel), List.mem_of_getElem? (i := 1231) (by decide +kernel), List.mem_of_getElem? (i := 1232) (by decide +kernel)⟩
theorem lw_p57 : lw_okq (⟨"DaysBagModel", "best", "(I)J"⟩, 33) := ⟨⟨by decide +kernel, by decide +kernel⟩, List.mem_of_getElem? (i := 949) (by decide +kernel), List.mem_of_getElem? (i := 1235) (by decide +kernel), List.mem_of_getElem? (i := 1236) (by decide +kernel)⟩
theorem lw_p58 : lw_okq (⟨"DaysBagModel", "pays", "(II)I"⟩, 33) := ⟨⟨by decide +kernel, by decide +kernel⟩, List.mem_of_getElem? (i := 949) (by decide +kernel), List.mem_of_getElem? (i := 1248) (by decide +kernel), List.mem_of_getElem? (i := 1249) (by decide +kernel)⟩
theorem lw_p59 : lw_okq (⟨"DaysBagModel", "goesThrough", "(II)V"⟩, 33) := ⟨⟨by decide +kernel, by decide +kernel⟩, List.mem_of_getElem? (i := 949) (by decide +kernel), List.mem_of_getElem? (i := 1294) (by decide +kernel), List.mem_of_getElem? (i := 1295) (by decide +kernel)⟩
theorem lw_p60 : lw_okq (⟨"DaysBagModel", "isSure", "(II)Z"⟩, 33) := ⟨⟨by decide +kernel, by decide +kernel⟩, List.mem_of_getElem? (i := 949) (by decide +kernel), List.mem_of_getElem? (i := 1306) (by decide +kernel), List.mem_of_getElem? (i := 1307) (by decide +kernel)⟩
theorem lw_p61 : lw_okq (⟨"DaysBagModel", "mostFrom", "(I)I"⟩, 33) := ⟨⟨by decide +kernel, by decide +kernel⟩, List.mem_of_getElem? (i := 949) (by decide +kernel), List.mem_of_getElem? (i := 1314) (by decide +kernel), List.mem_of_getElem? (i := 1315) (by decide +kernel)⟩
theorem lw_p62 : lw_okq (⟨"DaysBagModel", "barred", "(II)J"⟩, 33) := ⟨⟨by decide +kernel, by decide +kernel⟩, List.mem_of_getElem? (i := 949) (by decide +kernel), List.mem_of_getElem? (i := 1338) (by decide +kernel), List.mem_of_getElem? (i := 1339) (by decide +kernel)⟩
theorem lw_p63 : lw_okq (⟨"DaysBagModel", "oddsFrom", "(I)V"⟩, 33) := ⟨⟨by decide +kernel, by decide +kernel⟩, List.mem_of_getElem? (i := 949) (by decide +kernel), List.mem_of_getElem? (i := 1350) (by decide +kernel), List.mem_of_getElem? (i := 1351) (by decide +kernel)⟩
def lw_privs_4 : List (MethodName × Nat) := [(⟨"DaysBagModel", "doesOn", "(III)I"⟩, 33), (⟨"DaysBagModel", "plainly", "(II)I"⟩, 33), (⟨"DaysBagModel", "can", "(III)Z"⟩, 33), (⟨"DaysBagModel", "canOn", "(III)Z"⟩, 33), (⟨"DaysBagModel", "leftOne", "(II)I"⟩, 33), (⟨"DaysBagModel", "waiting", "(III)I"⟩, 33), (⟨"DaysBagModel", "surely", "(II)I"⟩, 33), (⟨"DaysBagModel", "bestly", "(II)I"⟩, 33), (⟨"DaysBagModel", "bestOn", "(II)J"⟩, 33), (⟨"DaysBagModel", "best", "(I)J"⟩, 33), (⟨"DaysBagModel", "pays", "(II)I"⟩, 33), (⟨"DaysBagModel", "goesThrough", "(II)V"⟩, 33), (⟨"DaysBagModel", "isSure", "(II)Z"⟩, 33), (⟨"DaysBagModel", "mostFrom", "(I)I"⟩, 33), (⟨"DaysBagModel", "barred", "(II)J"⟩, 33), (⟨"DaysBagModel", "oddsFrom", "(I)V"⟩, 33)]
theorem lw_r4 : ∀ q ∈ lw_privs_4, lw_okq q := List.forall_mem_cons.mpr ⟨lw_p48, List.forall_mem_cons.mpr ⟨lw_p49, List.forall_mem_cons.mpr ⟨lw_p50, List.forall_mem_cons.mpr ⟨lw_p51, List.forall_mem_cons.mpr ⟨lw_p52, List.forall_mem_cons.mpr ⟨lw_p53, List.forall_mem_cons.mpr ⟨lw_p54, List.forall_mem_cons.mpr ⟨lw_p55, List.forall_mem_cons.mpr ⟨lw_p56, List.forall_mem_cons.mpr ⟨lw_p57, List.forall_mem_cons.mpr ⟨lw_p58, List.forall_mem_cons.mpr ⟨lw_p59, List.forall_mem_cons.mpr ⟨lw_p60, List.forall_mem_cons.mpr ⟨lw_p61, List.forall_mem_cons.mpr ⟨lw_p62, List.forall_mem_cons.mpr ⟨lw_p63, fun _ h => absurd h List.not_mem_nil⟩⟩⟩⟩⟩⟩⟩⟩⟩⟩⟩⟩⟩⟩⟩⟩
theorem lw_p64 : lw_okq (⟨"DaysBagModel", "toldAhead", "(II)I"⟩, 33) := ⟨⟨by decide +kernel, by decide +kernel⟩, List.mem_of_getElem? (i := 949) (by decide +kernel), List.mem_of_getElem? (i := 1354) (by decide +kernel), List.mem_of_getElem? (i := 1355) (by decide +kernel)⟩
theorem lw_p65 : lw_okq (⟨"DaysBagModel", "sowsActs", "(I)I"⟩, 33) := ⟨⟨by decide +kernel, by decide +kernel⟩, List.mem_of_getElem? (i := 949) (by decide +kernel), List.mem_of_getElem? (i := 1377) (by decide +kernel), List.mem_of_getElem? (i := 1378) (by decide +kernel)⟩
theorem lw_p66 : lw_okq (⟨"DaysBagModel", "ranBody", "(I)V"⟩, 33) := ⟨⟨by decide +kernel, by decide +kernel⟩, List.mem_of_getElem? (i := 949) (by decide +kernel), List.mem_of_getElem? (i := 1384) (by decide +kernel), List.mem_of_getElem? (i := 1385) (by decide +kernel)⟩
theorem lw_p67 : lw_okq (⟨"DaysBagModel", "plainSows", "(I)I"⟩, 33) := ⟨⟨by decide +kernel, by decide +kernel⟩, List.mem_of_getElem? (i := 949) (by decide +kernel), List.mem_of_getElem? (i := 1388) (by decide +kernel), List.mem_of_getElem? (i := 1389) (by decide +kernel)⟩
theorem lw_p68 : lw_okq (⟨"DaysBagModel", "cutsActs", "(I)I"⟩, 33) := ⟨⟨by decide +kernel, by decide +kernel⟩, List.mem_of_getElem? (i := 949) (by decide +kernel), List.mem_of_getElem? (i := 1392) (by decide +kernel), List.mem_of_getElem? (i := 1393) (by decide +kernel)⟩
theorem lw_p69 : lw_okq (⟨"DaysBagModel", "plainCuts", "(I)I"⟩, 33) := ⟨⟨by decide +kernel, by decide +kernel⟩, List.mem_of_getElem? (i := 949) (by decide +kernel), List.mem_of_getElem? (i := 1396) (by decide +kernel), List.mem_of_getElem? (i := 1397) (by decide +kernel)⟩
theorem lw_p70 : lw_okq (⟨"DaysBagModel", "tellsActs", "(I)I"⟩, 33) := ⟨⟨by decide +kernel, by decide +kernel⟩, List.mem_of_getElem? (i := 949) (by decide +kernel), List.mem_of_getElem? (i := 1400) (by decide +kernel), List.mem_of_getElem? (i := 1401) (by decide +kernel)⟩
theorem lw_p71 : lw_okq (⟨"DaysBagModel", "plainTells", "(I)I"⟩, 33) := ⟨⟨by decide +kernel, by decide +kernel⟩, List.mem_of_getElem? (i := 949) (by decide +kernel), List.mem_of_getElem? (i := 1404) (by decide +kernel), List.mem_of_getElem? (i := 1405) (by decide +kernel)⟩
def lw_privs_5 : List (MethodName × Nat) := [(⟨"DaysBagModel", "toldAhead", "(II)I"⟩, 33), (⟨"DaysBagModel", "sowsActs", "(I)I"⟩, 33), (⟨"DaysBagModel", "ranBody", "(I)V"⟩, 33), (⟨"DaysBagModel", "plainSows", "(I)I"⟩, 33), (⟨"DaysBagModel", "cutsActs", "(I)I"⟩, 33), (⟨"DaysBagModel", "plainCuts", "(I)I"⟩, 33), (⟨"DaysBagModel", "tellsActs", "(I)I"⟩, 33), (⟨"DaysBagModel", "plainTells", "(I)I"⟩, 33)]
theorem lw_r5 : ∀ q ∈ lw_privs_5, lw_okq q := List.forall_mem_cons.mpr ⟨lw_p64, List.forall_mem_cons.mpr ⟨lw_p65, List.forall_mem_cons.mpr ⟨lw_p66, List.forall_mem_cons.mpr ⟨lw_p67, List.forall_mem_cons.mpr ⟨lw_p68, List.forall_mem_cons.mpr ⟨lw_p69, List.forall_mem_cons.mpr ⟨lw_p70, List.forall_mem_cons.mpr ⟨lw_p71, fun _ h => absurd h List.not_mem_nil⟩⟩⟩⟩⟩⟩⟩⟩
def lw_privs : List (MethodName × Nat) := lw_privs_1 ++ (lw_privs_2 ++ (lw_privs_3 ++ (lw_privs_4 ++ (lw_privs_5))))
def lw_tbl : List Cond := k2_sels lw_privs ++ tables_1
theorem lw_privs_ok : ∀ q ∈ lw_privs, lw_okq q := by
  show ∀ q ∈ lw_privs_1 ++ (lw_privs_2 ++ (lw_privs_3 ++ (lw_privs_4 ++ (lw_privs_5)))), lw_okq q
  exact List.forall_mem_append.mpr ⟨lw_r1, List.forall_mem_append.mpr ⟨lw_r2, List.forall_mem_append.mpr ⟨lw_r3, List.forall_mem_append.mpr ⟨lw_r4, lw_r5⟩⟩⟩⟩
end
section
def RX0 : String := "DaysBag$Ahead"
def TX0 : u_T := fun k => match k with
  | 0 => ("DaysBag$Ahead", "left", "[I", true)
  | 1 => ("DaysBag$Ahead", "rest", "I", false)
  | 2 => ("DaysBag$Ahead", "total", "I", false)
  | 3 => ("DaysBag$Ahead", "valley", "LDaysBag$Valley;", false)
  | 4 => ("DaysBag$Ahead", "barred", "I", false)
  | 5 => ("DaysBag$Ahead", "barredAt", "I", false)
  | 6 => ("DaysBag$Ahead", "opened", "[I", true)
  | 7 => ("DaysBag$Ahead", "day", "[I", true)
  | 8 => ("DaysBag$Ahead", "best", "[I", true)
  | _ => ("DaysBag$Ahead", "own", "[I", true)
def tyX0 : Nat → FieldType := fun k => match k with
  | 0 => .array .int
  | 1 => .int
  | 2 => .int
  | 3 => .object "DaysBag$Valley"
  | 4 => .int
  | 5 => .int
  | 6 => .array .int
  | 7 => .array .int
  | 8 => .array .int
  | _ => .array .int
theorem nmX0 : ∀ a, a < 10 → ∀ b, b < 10 → a ≠ b → (TX0 a).2.1 ≠ (TX0 b).2.1 := by decide +kernel
theorem tyX0_ok : ∀ k, k < 10 → parseFieldDescriptor (TX0 k).2.2.1 = some (tyX0 k) := by decide +kernel
abbrev cX0_init : ByteArray := prog_2_method_1_code
def yX0_init : MethodName := ⟨RX0, "<init>", "(LDaysBag$Valley;[I)V"⟩
abbrev cX0_look : ByteArray := prog_2_method_2_code
def yX0_look : MethodName := ⟨RX0, "look", "(LDaysBag$Season;II)V"⟩
abbrev cX0_has : ByteArray := prog_2_method_3_code
def yX0_has : MethodName := ⟨RX0, "has", "(I)Z"⟩
abbrev cX0_take : ByteArray := prog_2_method_4_code
def yX0_take : MethodName := ⟨RX0, "take", "(I)V"⟩
abbrev cX0_back : ByteArray := prog_2_method_5_code
def yX0_back : MethodName := ⟨RX0, "back", "(I)V"⟩
abbrev cX0_ways : ByteArray := prog_2_method_6_code
def yX0_ways : MethodName := ⟨RX0, "ways", "()I"⟩
abbrev cX0_payOf : ByteArray := prog_2_method_7_code
def yX0_payOf : MethodName := ⟨RX0, "payOf", "(I)I"⟩
abbrev cX0_place : ByteArray := prog_2_method_8_code
def yX0_place : MethodName := ⟨RX0, "place", "(I)I"⟩
abbrev cX0_cans : ByteArray := prog_2_method_9_code
def yX0_cans : MethodName := ⟨RX0, "cans", "(II)I"⟩
abbrev cX0_bestSum : ByteArray := prog_2_method_10_code
def yX0_bestSum : MethodName := ⟨RX0, "bestSum", "(I)I"⟩
abbrev cX0_bestOn : ByteArray := prog_2_method_11_code
def yX0_bestOn : MethodName := ⟨RX0, "bestOn", "(II)I"⟩
abbrev cX0_bestWork : ByteArray := prog_2_method_12_code
def yX0_bestWork : MethodName := ⟨RX0, "bestWork", "(II)I"⟩
abbrev cX0_worth : ByteArray := prog_2_method_13_code
def yX0_worth : MethodName := ⟨RX0, "worth", "(II)I"⟩
abbrev cX0_paidOn : ByteArray := prog_2_method_14_code
def yX0_paidOn : MethodName := ⟨RX0, "paidOn", "(II)I"⟩
abbrev cX0_forget : ByteArray := prog_2_method_15_code
def yX0_forget : MethodName := ⟨RX0, "forget", "()V"⟩
abbrev cX0_ownSum : ByteArray := prog_2_method_16_code
def yX0_ownSum : MethodName := ⟨RX0, "ownSum", "(LDaysBag$Worker;II)I"⟩
abbrev cX0_reached : ByteArray := prog_2_method_17_code
def yX0_reached : MethodName := ⟨RX0, "reached", "(II)Z"⟩
abbrev cX0_mostPaid : ByteArray := prog_2_method_18_code
def yX0_mostPaid : MethodName := ⟨RX0, "mostPaid", "(I)I"⟩
abbrev cX0_mostOn : ByteArray := prog_2_method_19_code
def yX0_mostOn : MethodName := ⟨RX0, "mostOn", "(II)I"⟩
def RX1 : String := "DaysBag$Best"
def TX1 : u_T := fun k => match k with
  | 0 => ("DaysBag$Worker", "kind", "I", true)
  | 1 => ("DaysBag$Worker", "number", "I", true)
  | _ => ("DaysBag$Worker", "v", "I", true)
def tyX1 : Nat → FieldType := fun k => match k with
  | 0 => .int
  | 1 => .int
  | _ => .int
theorem nmX1 : ∀ a, a < 3 → ∀ b, b < 3 → a ≠ b → (TX1 a).2.1 ≠ (TX1 b).2.1 := by decide +kernel
theorem tyX1_ok : ∀ k, k < 3 → parseFieldDescriptor (TX1 k).2.2.1 = some (tyX1 k) := by decide +kernel
abbrev cX1_init : ByteArray := prog_3_method_1_code
def yX1_init : MethodName := ⟨RX1, "<init>", "(III)V"⟩
abbrev cX1_does : ByteArray := prog_3_method_2_code
def yX1_does : MethodName := ⟨RX1, "does", "(LDaysBag$Ahead;II)I"⟩
abbrev cX1_sows : ByteArray := prog_3_method_3_code
def yX1_sows : MethodName := ⟨RX1, "sows", "(I[I)I"⟩
def RX2 : String := "DaysBag$Left"
def TX2 : u_T := fun k => match k with
  | 0 => ("DaysBag$Worker", "kind", "I", true)
  | 1 => ("DaysBag$Worker", "number", "I", true)
  | _ => ("DaysBag$Worker", "v", "I", true)
def tyX2 : Nat → FieldType := fun k => match k with
  | 0 => .int
  | 1 => .int
  | _ => .int
theorem nmX2 : ∀ a, a < 3 → ∀ b, b < 3 → a ≠ b → (TX2 a).2.1 ≠ (TX2 b).2.1 := by decide +kernel
theorem tyX2_ok : ∀ k, k < 3 → parseFieldDescriptor (TX2 k).2.2.1 = some (tyX2 k) := by decide +kernel
abbrev cX2_init : ByteArray := prog_4_method_1_code
def yX2_init : MethodName := ⟨RX2, "<init>", "(III)V"⟩
abbrev cX2_does : ByteArray := prog_4_method_2_code
def yX2_does : MethodName := ⟨RX2, "does", "(LDaysBag$Ahead;II)I"⟩
abbrev cX2_cuts : ByteArray := prog_4_method_3_code
def yX2_cuts : MethodName := ⟨RX2, "cuts", "(I[I)I"⟩
def RX3 : String := "DaysBag$Plain"
def TX3 : u_T := fun k => match k with
  | 0 => ("DaysBag$Worker", "kind", "I", true)
  | 1 => ("DaysBag$Worker", "number", "I", true)
  | _ => ("DaysBag$Worker", "v", "I", true)
def tyX3 : Nat → FieldType := fun k => match k with
  | 0 => .int
  | 1 => .int
  | _ => .int
theorem nmX3 : ∀ a, a < 3 → ∀ b, b < 3 → a ≠ b → (TX3 a).2.1 ≠ (TX3 b).2.1 := by decide +kernel
theorem tyX3_ok : ∀ k, k < 3 → parseFieldDescriptor (TX3 k).2.2.1 = some (tyX3 k) := by decide +kernel
abbrev cX3_init : ByteArray := prog_5_method_1_code
def yX3_init : MethodName := ⟨RX3, "<init>", "(III)V"⟩
abbrev cX3_does : ByteArray := prog_5_method_2_code
def yX3_does : MethodName := ⟨RX3, "does", "(LDaysBag$Ahead;II)I"⟩
abbrev cX3_sows : ByteArray := prog_5_method_3_code
def yX3_sows : MethodName := ⟨RX3, "sows", "(I[I)I"⟩
def RX4 : String := "DaysBag$Reader"
def TX4 : u_T := fun k => match k with
  | 0 => ("DaysBag$Reader", "tape", "[I", false)
  | 1 => ("DaysBag$Reader", "size", "I", false)
  | 2 => ("DaysBag$Reader", "at", "I", false)
  | 3 => ("DaysBag$Reader", "code", "[I", true)
  | 4 => ("DaysBag$Reader", "length", "I", false)
  | 5 => ("DaysBag$Reader", "works", "[I", true)
  | 6 => ("DaysBag$Reader", "ends", "[I", true)
  | 7 => ("DaysBag$Reader", "cans", "I", false)
  | 8 => ("DaysBag$Reader", "pay", "[I", true)
  | _ => ("DaysBag$Reader", "cover", "I", false)
def tyX4 : Nat → FieldType := fun k => match k with
  | 0 => .array .int
  | 1 => .int
  | 2 => .int
  | 3 => .array .int
  | 4 => .int
  | 5 => .array .int
  | 6 => .array .int
  | 7 => .int
  | 8 => .array .int
  | _ => .int
theorem nmX4 : ∀ a, a < 10 → ∀ b, b < 10 → a ≠ b → (TX4 a).2.1 ≠ (TX4 b).2.1 := by decide +kernel
theorem tyX4_ok : ∀ k, k < 10 → parseFieldDescriptor (TX4 k).2.2.1 = some (tyX4 k) := by decide +kernel
abbrev cX4_init : ByteArray := prog_6_method_1_code
def yX4_init : MethodName := ⟨RX4, "<init>", "()V"⟩
abbrev cX4_fault : ByteArray := prog_6_method_2_code
def yX4_fault : MethodName := ⟨RX4, "fault", "([II)I"⟩
abbrev cX4_made : ByteArray := prog_6_method_3_code
def yX4_made : MethodName := ⟨RX4, "made", "()LDaysBag$Valley;"⟩
abbrev cX4_sees : ByteArray := prog_6_method_4_code
def yX4_sees : MethodName := ⟨RX4, "sees", "(C)Z"⟩
abbrev cX4_eats : ByteArray := prog_6_method_5_code
def yX4_eats : MethodName := ⟨RX4, "eats", "(C)Z"⟩
abbrev cX4_eatsAll : ByteArray := prog_6_method_6_code
def yX4_eatsAll : MethodName := ⟨RX4, "eatsAll", "(Ljava/lang/String;)Z"⟩
abbrev cX4_eatsOneOf : ByteArray := prog_6_method_7_code
def yX4_eatsOneOf : MethodName := ⟨RX4, "eatsOneOf", "(Ljava/lang/String;)I"⟩
abbrev cX4_number : ByteArray := prog_6_method_8_code
def yX4_number : MethodName := ⟨RX4, "number", "()I"⟩
abbrev cX4_clause : ByteArray := prog_6_method_9_code
def yX4_clause : MethodName := ⟨RX4, "clause", "()Z"⟩
abbrev cX4_payClause : ByteArray := prog_6_method_10_code
def yX4_payClause : MethodName := ⟨RX4, "payClause", "()Z"⟩
abbrev cX4_coverClause : ByteArray := prog_6_method_11_code
def yX4_coverClause : MethodName := ⟨RX4, "coverClause", "()Z"⟩
abbrev cX4_canClause : ByteArray := prog_6_method_12_code
def yX4_canClause : MethodName := ⟨RX4, "canClause", "()Z"⟩
abbrev cX4_either : ByteArray := prog_6_method_13_code
def yX4_either : MethodName := ⟨RX4, "either", "(I)Z"⟩
abbrev cX4_both : ByteArray := prog_6_method_14_code
def yX4_both : MethodName := ⟨RX4, "both", "(I)Z"⟩
abbrev cX4_factor : ByteArray := prog_6_method_15_code
def yX4_factor : MethodName := ⟨RX4, "factor", "(I)Z"⟩
abbrev cX4_testing : ByteArray := prog_6_method_16_code
def yX4_testing : MethodName := ⟨RX4, "testing", "()Z"⟩
abbrev cX4_emit : ByteArray := prog_6_method_17_code
def yX4_emit : MethodName := ⟨RX4, "emit", "(I)V"⟩
def RX5 : String := "DaysBag$Season"
def TX5 : u_T := fun k => match k with
  | 0 => ("DaysBag$Season", "bag", "[I", true)
  | 1 => ("DaysBag$Season", "second", "[I", true)
  | 2 => ("DaysBag$Season", "day", "I", false)
  | 3 => ("DaysBag$Season", "stages", "I", false)
  | 4 => ("DaysBag$Season", "tape", "[I", true)
  | 5 => ("DaysBag$Season", "signs", "I", false)
  | 6 => ("DaysBag$Season", "held", "LDaysBag$Valley;", false)
  | 7 => ("DaysBag$Season", "valleys", "I", false)
  | 8 => ("DaysBag$Season", "workers", "[LDaysBag$Worker;", true)
  | 9 => ("DaysBag$Season", "hands", "I", false)
  | 10 => ("DaysBag$Season", "book", "[I", true)
  | _ => ("DaysBag$Season", "pages", "I", false)
def tyX5 : Nat → FieldType := fun k => match k with
  | 0 => .array .int
  | 1 => .array .int
  | 2 => .int
  | 3 => .int
  | 4 => .array .int
  | 5 => .int
  | 6 => .object "DaysBag$Valley"
  | 7 => .int
  | 8 => .array (.object "DaysBag$Worker")
  | 9 => .int
  | 10 => .array .int
  | _ => .int
theorem nmX5 : ∀ a, a < 12 → ∀ b, b < 12 → a ≠ b → (TX5 a).2.1 ≠ (TX5 b).2.1 := by decide +kernel
theorem tyX5_ok : ∀ k, k < 12 → parseFieldDescriptor (TX5 k).2.2.1 = some (tyX5 k) := by decide +kernel
abbrev cX5_init : ByteArray := prog_7_method_1_code
def yX5_init : MethodName := ⟨RX5, "<init>", "(LDaysBag$Valley;)V"⟩
abbrev cX5_copy : ByteArray := prog_7_method_2_code
def yX5_copy : MethodName := ⟨RX5, "copy", "(LDaysBag$Season;)V"⟩
def RX6 : String := "DaysBag$Sure"
def TX6 : u_T := fun k => match k with
  | 0 => ("DaysBag$Worker", "kind", "I", true)
  | 1 => ("DaysBag$Worker", "number", "I", true)
  | _ => ("DaysBag$Worker", "v", "I", true)
def tyX6 : Nat → FieldType := fun k => match k with
  | 0 => .int
  | 1 => .int
  | _ => .int
theorem nmX6 : ∀ a, a < 3 → ∀ b, b < 3 → a ≠ b → (TX6 a).2.1 ≠ (TX6 b).2.1 := by decide +kernel
theorem tyX6_ok : ∀ k, k < 3 → parseFieldDescriptor (TX6 k).2.2.1 = some (tyX6 k) := by decide +kernel
abbrev cX6_init : ByteArray := prog_8_method_1_code
def yX6_init : MethodName := ⟨RX6, "<init>", "(III)V"⟩
abbrev cX6_does : ByteArray := prog_8_method_2_code
def yX6_does : MethodName := ⟨RX6, "does", "(LDaysBag$Ahead;II)I"⟩
abbrev cX6_tells : ByteArray := prog_8_method_3_code
def yX6_tells : MethodName := ⟨RX6, "tells", "(I[I)I"⟩
def RX7 : String := "DaysBag$Told"
def TX7 : u_T := fun k => match k with
  | 0 => ("DaysBag$Worker", "kind", "I", true)
  | 1 => ("DaysBag$Worker", "number", "I", true)
  | 2 => ("DaysBag$Worker", "v", "I", true)
  | _ => ("DaysBag$Told", "row", "I", true)
def tyX7 : Nat → FieldType := fun k => match k with
  | 0 => .int
  | 1 => .int
  | 2 => .int
  | _ => .int
theorem nmX7 : ∀ a, a < 4 → ∀ b, b < 4 → a ≠ b → (TX7 a).2.1 ≠ (TX7 b).2.1 := by decide +kernel
theorem tyX7_ok : ∀ k, k < 4 → parseFieldDescriptor (TX7 k).2.2.1 = some (tyX7 k) := by decide +kernel
abbrev cX7_init : ByteArray := prog_9_method_1_code
def yX7_init : MethodName := ⟨RX7, "<init>", "(III)V"⟩
abbrev cX7_toldFor : ByteArray := prog_9_method_2_code
def yX7_toldFor : MethodName := ⟨RX7, "toldFor", "(I)I"⟩
abbrev cX7_telling : ByteArray := prog_9_method_3_code
def yX7_telling : MethodName := ⟨RX7, "telling", "(II)LDaysBag$Told;"⟩
abbrev cX7_does : ByteArray := prog_9_method_4_code
def yX7_does : MethodName := ⟨RX7, "does", "(LDaysBag$Ahead;II)I"⟩
abbrev cX7_cuts : ByteArray := prog_9_method_5_code
def yX7_cuts : MethodName := ⟨RX7, "cuts", "(I[I)I"⟩
def RX8 : String := "DaysBag$Valley"
def TX8 : u_T := fun k => match k with
  | 0 => ("DaysBag$Valley", "code", "[I", true)
  | 1 => ("DaysBag$Valley", "works", "[I", true)
  | 2 => ("DaysBag$Valley", "ends", "[I", true)
  | 3 => ("DaysBag$Valley", "pay", "[I", true)
  | _ => ("DaysBag$Valley", "cover", "I", true)
def tyX8 : Nat → FieldType := fun k => match k with
  | 0 => .array .int
  | 1 => .array .int
  | 2 => .array .int
  | 3 => .array .int
  | _ => .int
theorem nmX8 : ∀ a, a < 5 → ∀ b, b < 5 → a ≠ b → (TX8 a).2.1 ≠ (TX8 b).2.1 := by decide +kernel
theorem tyX8_ok : ∀ k, k < 5 → parseFieldDescriptor (TX8 k).2.2.1 = some (tyX8 k) := by decide +kernel
abbrev cX8_init : ByteArray := prog_10_method_1_code
def yX8_init : MethodName := ⟨RX8, "<init>", "([I[I[I[II)V"⟩
abbrev cX8_gain : ByteArray := prog_10_method_2_code
def yX8_gain : MethodName := ⟨RX8, "gain", "(II)I"⟩
abbrev cX8_opened : ByteArray := prog_10_method_3_code
def yX8_opened : MethodName := ⟨RX8, "opened", "([I)I"⟩
abbrev cX8_holds : ByteArray := prog_10_method_4_code
def yX8_holds : MethodName := ⟨RX8, "holds", "(II[I)Z"⟩
abbrev cX8_test : ByteArray := prog_10_method_5_code
def yX8_test : MethodName := ⟨RX8, "test", "(III)I"⟩
def RX9 : String := "DaysBag$Waiting"
def TX9 : u_T := fun k => match k with
  | 0 => ("DaysBag$Worker", "kind", "I", true)
  | 1 => ("DaysBag$Worker", "number", "I", true)
  | _ => ("DaysBag$Worker", "v", "I", true)
def tyX9 : Nat → FieldType := fun k => match k with
  | 0 => .int
  | 1 => .int
  | _ => .int
theorem nmX9 : ∀ a, a < 3 → ∀ b, b < 3 → a ≠ b → (TX9 a).2.1 ≠ (TX9 b).2.1 := by decide +kernel
theorem tyX9_ok : ∀ k, k < 3 → parseFieldDescriptor (TX9 k).2.2.1 = some (tyX9 k) := by decide +kernel
abbrev cX9_init : ByteArray := prog_11_method_1_code
def yX9_init : MethodName := ⟨RX9, "<init>", "(III)V"⟩
abbrev cX9_does : ByteArray := prog_11_method_2_code
def yX9_does : MethodName := ⟨RX9, "does", "(LDaysBag$Ahead;II)I"⟩
abbrev cX9_tells : ByteArray := prog_11_method_3_code
def yX9_tells : MethodName := ⟨RX9, "tells", "(I[I)I"⟩
def RX10 : String := "DaysBag$Worker"
def TX10 : u_T := fun k => match k with
  | 0 => ("DaysBag$Worker", "kind", "I", true)
  | 1 => ("DaysBag$Worker", "number", "I", true)
  | _ => ("DaysBag$Worker", "v", "I", true)
def tyX10 : Nat → FieldType := fun k => match k with
  | 0 => .int
  | 1 => .int
  | _ => .int
theorem nmX10 : ∀ a, a < 3 → ∀ b, b < 3 → a ≠ b → (TX10 a).2.1 ≠ (TX10 b).2.1 := by decide +kernel
theorem tyX10_ok : ∀ k, k < 3 → parseFieldDescriptor (TX10 k).2.2.1 = some (tyX10 k) := by decide +kernel
abbrev cX10_init : ByteArray := prog_12_method_1_code
def yX10_init : MethodName := ⟨RX10, "<init>", "(III)V"⟩
abbrev cX10_does : ByteArray := prog_12_method_2_code
def yX10_does : MethodName := ⟨RX10, "does", "(LDaysBag$Ahead;II)I"⟩
abbrev cX10_sows : ByteArray := prog_12_method_3_code
def yX10_sows : MethodName := ⟨RX10, "sows", "(I[I)I"⟩
abbrev cX10_cuts : ByteArray := prog_12_method_4_code
def yX10_cuts : MethodName := ⟨RX10, "cuts", "(I[I)I"⟩
abbrev cX10_tells : ByteArray := prog_12_method_5_code
def yX10_tells : MethodName := ⟨RX10, "tells", "(I[I)I"⟩
abbrev cX10_began : ByteArray := prog_12_method_6_code
def yX10_began : MethodName := ⟨RX10, "began", "(I[I)V"⟩
abbrev cX10_least : ByteArray := prog_12_method_7_code
def yX10_least : MethodName := ⟨RX10, "least", "(I)I"⟩
def RX11 : String := "DaysBag"
def TX11 : u_T := fun k => match k with
  | 0 => ("DaysBag", "now", "LDaysBag$Season;", true)
  | 1 => ("DaysBag", "kept", "LDaysBag$Season;", true)
  | 2 => ("DaysBag", "imaged", "Z", false)
  | 3 => ("DaysBag", "reader", "LDaysBag$Reader;", true)
  | 4 => ("DaysBag", "ahead", "LDaysBag$Ahead;", true)
  | 5 => ("DaysBag", "would", "LDaysBag$Ahead;", true)
  | _ => ("DaysBag", "ran", "[I", true)
def tyX11 : Nat → FieldType := fun k => match k with
  | 0 => .object "DaysBag$Season"
  | 1 => .object "DaysBag$Season"
  | 2 => .boolean
  | 3 => .object "DaysBag$Reader"
  | 4 => .object "DaysBag$Ahead"
  | 5 => .object "DaysBag$Ahead"
  | _ => .array .int
theorem nmX11 : ∀ a, a < 7 → ∀ b, b < 7 → a ≠ b → (TX11 a).2.1 ≠ (TX11 b).2.1 := by decide +kernel
theorem tyX11_ok : ∀ k, k < 7 → parseFieldDescriptor (TX11 k).2.2.1 = some (tyX11 k) := by decide +kernel
abbrev cX11_init : ByteArray := prog_1_method_1_code
def yX11_init : MethodName := ⟨RX11, "<init>", "()V"⟩
abbrev cX11_bag : ByteArray := prog_1_method_2_code
def yX11_bag : MethodName := ⟨RX11, "bag", "(II)I"⟩
abbrev cX11_feed : ByteArray := prog_1_method_3_code
def yX11_feed : MethodName := ⟨RX11, "feed", "(I)I"⟩
abbrev cX11_valley : ByteArray := prog_1_method_4_code
def yX11_valley : MethodName := ⟨RX11, "valley", "()I"⟩
abbrev cX11_told : ByteArray := prog_1_method_5_code
def yX11_told : MethodName := ⟨RX11, "told", "(I)I"⟩
abbrev cX11_stage : ByteArray := prog_1_method_6_code
def yX11_stage : MethodName := ⟨RX11, "stage", "(II)I"⟩
abbrev cX11_worker : ByteArray := prog_1_method_7_code
def yX11_worker : MethodName := ⟨RX11, "worker", "(II)I"⟩
abbrev cX11_row : ByteArray := prog_1_method_8_code
def yX11_row : MethodName := ⟨RX11, "row", "(III)I"⟩
abbrev cX11_of : ByteArray := prog_1_method_9_code
def yX11_of : MethodName := ⟨RX11, "of", "(II)I"⟩
abbrev cX11_draw : ByteArray := prog_1_method_10_code
def yX11_draw : MethodName := ⟨RX11, "draw", "(II)I"⟩
abbrev cX11_next : ByteArray := prog_1_method_11_code
def yX11_next : MethodName := ⟨RX11, "next", "(II)J"⟩
abbrev cX11_run : ByteArray := prog_1_method_12_code
def yX11_run : MethodName := ⟨RX11, "run", "(III)J"⟩
abbrev cX11_by : ByteArray := prog_1_method_13_code
def yX11_by : MethodName := ⟨RX11, "by", "(IIII)J"⟩
abbrev cX11_first : ByteArray := prog_1_method_14_code
def yX11_first : MethodName := ⟨RX11, "first", "(II)J"⟩
abbrev cX11_before : ByteArray := prog_1_method_15_code
def yX11_before : MethodName := ⟨RX11, "before", "(III)J"⟩
abbrev cX11_orders : ByteArray := prog_1_method_16_code
def yX11_orders : MethodName := ⟨RX11, "orders", "()J"⟩
abbrev cX11_mean : ByteArray := prog_1_method_17_code
def yX11_mean : MethodName := ⟨RX11, "mean", "(III)J"⟩
abbrev cX11_today : ByteArray := prog_1_method_18_code
def yX11_today : MethodName := ⟨RX11, "today", "(I)I"⟩
abbrev cX11_whatever : ByteArray := prog_1_method_19_code
def yX11_whatever : MethodName := ⟨RX11, "whatever", "()I"⟩
abbrev cX11_most : ByteArray := prog_1_method_20_code
def yX11_most : MethodName := ⟨RX11, "most", "()I"⟩
abbrev cX11_put : ByteArray := prog_1_method_21_code
def yX11_put : MethodName := ⟨RX11, "put", "(II)J"⟩
abbrev cX11_pass : ByteArray := prog_1_method_22_code
def yX11_pass : MethodName := ⟨RX11, "pass", "(II)J"⟩
abbrev cX11_cover : ByteArray := prog_1_method_23_code
def yX11_cover : MethodName := ⟨RX11, "cover", "(III)J"⟩
abbrev cX11_right : ByteArray := prog_1_method_24_code
def yX11_right : MethodName := ⟨RX11, "right", "(II)J"⟩
abbrev cX11_book : ByteArray := prog_1_method_25_code
def yX11_book : MethodName := ⟨RX11, "book", "(I)I"⟩
abbrev cX11_likely : ByteArray := prog_1_method_26_code
def yX11_likely : MethodName := ⟨RX11, "likely", "(I)J"⟩
abbrev cX11_judged : ByteArray := prog_1_method_27_code
def yX11_judged : MethodName := ⟨RX11, "judged", "(II)I"⟩
abbrev cX11_other : ByteArray := prog_1_method_28_code
def yX11_other : MethodName := ⟨RX11, "other", "(II)I"⟩
abbrev cX11_same : ByteArray := prog_1_method_29_code
def yX11_same : MethodName := ⟨RX11, "same", "()I"⟩
abbrev cX11_act : ByteArray := prog_1_method_30_code
def yX11_act : MethodName := ⟨RX11, "act", "(III)I"⟩
abbrev cX11_trace : ByteArray := prog_1_method_31_code
def yX11_trace : MethodName := ⟨RX11, "trace", "(I)I"⟩
abbrev cX11_as : ByteArray := prog_1_method_32_code
def yX11_as : MethodName := ⟨RX11, "as", "(II)I"⟩
abbrev cX11_image : ByteArray := prog_1_method_33_code
def yX11_image : MethodName := ⟨RX11, "image", "()I"⟩
abbrev cX11_undo : ByteArray := prog_1_method_34_code
def yX11_undo : MethodName := ⟨RX11, "undo", "()I"⟩
abbrev cX11_count : ByteArray := prog_1_method_35_code
def yX11_count : MethodName := ⟨RX11, "count", "(I)I"⟩
abbrev cX11_isSort : ByteArray := prog_1_method_36_code
def yX11_isSort : MethodName := ⟨RX11, "isSort", "(I)Z"⟩
abbrev cX11_isPart : ByteArray := prog_1_method_37_code
def yX11_isPart : MethodName := ⟨RX11, "isPart", "(I)Z"⟩
abbrev cX11_workName : ByteArray := prog_1_method_38_code
def yX11_workName : MethodName := ⟨RX11, "workName", "(I)I"⟩
abbrev cX11_changed : ByteArray := prog_1_method_39_code
def yX11_changed : MethodName := ⟨RX11, "changed", "([III)I"⟩
abbrev cX11_restOf : ByteArray := prog_1_method_40_code
def yX11_restOf : MethodName := ⟨RX11, "restOf", "([I)I"⟩
abbrev cX11_hasBit : ByteArray := prog_1_method_41_code
def yX11_hasBit : MethodName := ⟨RX11, "hasBit", "(II)Z"⟩
abbrev cX11_isIn : ByteArray := prog_1_method_42_code
def yX11_isIn : MethodName := ⟨RX11, "isIn", "(II)Z"⟩
abbrev cX11_stageOf : ByteArray := prog_1_method_43_code
def yX11_stageOf : MethodName := ⟨RX11, "stageOf", "(II)I"⟩
abbrev cX11_after : ByteArray := prog_1_method_44_code
def yX11_after : MethodName := ⟨RX11, "after", "(II)I"⟩
abbrev cX11_choose : ByteArray := prog_1_method_45_code
def yX11_choose : MethodName := ⟨RX11, "choose", "(II)I"⟩
abbrev cX11_ordersOf : ByteArray := prog_1_method_46_code
def yX11_ordersOf : MethodName := ⟨RX11, "ordersOf", "([I)I"⟩
abbrev cX11_lowest : ByteArray := prog_1_method_47_code
def yX11_lowest : MethodName := ⟨RX11, "lowest", "(JJI)J"⟩
abbrev cX11_commonOf : ByteArray := prog_1_method_48_code
def yX11_commonOf : MethodName := ⟨RX11, "commonOf", "(JJ)J"⟩
abbrev cX11_workerAt : ByteArray := prog_1_method_49_code
def yX11_workerAt : MethodName := ⟨RX11, "workerAt", "(I)LDaysBag$Worker;"⟩
abbrev cX11_workNow : ByteArray := prog_1_method_50_code
def yX11_workNow : MethodName := ⟨RX11, "workNow", "(LDaysBag$Worker;I)I"⟩
abbrev cX11_ordersByBook : ByteArray := prog_1_method_51_code
def yX11_ordersByBook : MethodName := ⟨RX11, "ordersByBook", "([I)I"⟩
abbrev cX11_hired : ByteArray := prog_1_method_52_code
def yX11_hired : MethodName := ⟨RX11, "hired", "(III)LDaysBag$Worker;"⟩
abbrev cX11_lonely : ByteArray := prog_1_method_53_code
def yX11_lonely : MethodName := ⟨RX11, "lonely", "(I)LDaysBag$Worker;"⟩
abbrev cX11_isOf : ByteArray := prog_1_method_54_code
def yX11_isOf : MethodName := ⟨RX11, "isOf", "(LDaysBag$Worker;I)Z"⟩
def RX12 : String := "DaysBagModel"
def TX12 : u_T := fun k => match k with
  | 0 => ("DaysBagModel", "thrown", "I", false)
  | 1 => ("DaysBagModel", "s", "[I", true)
  | 2 => ("DaysBagModel", "image", "[I", true)
  | 3 => ("DaysBagModel", "hasImage", "Z", false)
  | 4 => ("DaysBagModel", "act", "I", false)
  | 5 => ("DaysBagModel", "spot", "I", false)
  | 6 => ("DaysBagModel", "end", "I", false)
  | 7 => ("DaysBagModel", "isWrong", "Z", false)
  | 8 => ("DaysBagModel", "open", "I", false)
  | 9 => ("DaysBagModel", "by", "[I", true)
  | 10 => ("DaysBagModel", "truths", "[Z", true)
  | 11 => ("DaysBagModel", "dayThen", "I", false)
  | 12 => ("DaysBagModel", "restThen", "I", false)
  | 13 => ("DaysBagModel", "canSeen", "[I", true)
  | 14 => ("DaysBagModel", "bestSum", "[J", true)
  | 15 => ("DaysBagModel", "bestSeen", "[I", true)
  | 16 => ("DaysBagModel", "bestDoes", "[I", true)
  | 17 => ("DaysBagModel", "times", "I", false)
  | 18 => ("DaysBagModel", "workSum", "[J", true)
  | 19 => ("DaysBagModel", "workAll", "[J", true)
  | 20 => ("DaysBagModel", "workSeen", "[I", true)
  | 21 => ("DaysBagModel", "surelySeen", "[I", true)
  | 22 => ("DaysBagModel", "mostPaid", "[I", true)
  | 23 => ("DaysBagModel", "mostSeen", "[I", true)
  | 24 => ("DaysBagModel", "rightSum", "[J", true)
  | 25 => ("DaysBagModel", "rightSeen", "[I", true)
  | 26 => ("DaysBagModel", "oddsUp", "J", false)
  | 27 => ("DaysBagModel", "oddsLow", "J", false)
  | 28 => ("DaysBagModel", "bodies", "[I", true)
  | 29 => ("DaysBagModel", "ran", "I", false)
  | 30 => ("DaysBagModel", "kind", "I", false)
  | 31 => ("DaysBagModel", "number", "I", false)
  | _ => ("DaysBagModel", "tellsV", "I", false)
def tyX12 : Nat → FieldType := fun k => match k with
  | 0 => .int
  | 1 => .array .int
  | 2 => .array .int
  | 3 => .boolean
  | 4 => .int
  | 5 => .int
  | 6 => .int
  | 7 => .boolean
  | 8 => .int
  | 9 => .array .int
  | 10 => .array .boolean
  | 11 => .int
  | 12 => .int
  | 13 => .array .int
  | 14 => .array .long
  | 15 => .array .int
  | 16 => .array .int
  | 17 => .int
  | 18 => .array .long
  | 19 => .array .long
  | 20 => .array .int
  | 21 => .array .int
  | 22 => .array .int
  | 23 => .array .int
  | 24 => .array .long
  | 25 => .array .int
  | 26 => .long
  | 27 => .long
  | 28 => .array .int
  | 29 => .int
  | 30 => .int
  | 31 => .int
  | _ => .int
theorem nmX12 : ∀ a, a < 33 → ∀ b, b < 33 → a ≠ b → (TX12 a).2.1 ≠ (TX12 b).2.1 := by decide +kernel
theorem tyX12_ok : ∀ k, k < 33 → parseFieldDescriptor (TX12 k).2.2.1 = some (tyX12 k) := by decide +kernel
abbrev cX12_init : ByteArray := prog_14_method_1_code
def yX12_init : MethodName := ⟨RX12, "<init>", "()V"⟩
abbrev cX12_in : ByteArray := prog_14_method_3_code
def yX12_in : MethodName := ⟨RX12, "in", "(III)Z"⟩
abbrev cX12_isSort : ByteArray := prog_14_method_4_code
def yX12_isSort : MethodName := ⟨RX12, "isSort", "(I)Z"⟩
abbrev cX12_isWork : ByteArray := prog_14_method_5_code
def yX12_isWork : MethodName := ⟨RX12, "isWork", "(I)Z"⟩
abbrev cX12_isWorker : ByteArray := prog_14_method_6_code
def yX12_isWorker : MethodName := ⟨RX12, "isWorker", "(I)Z"⟩
abbrev cX12_rest : ByteArray := prog_14_method_7_code
def yX12_rest : MethodName := ⟨RX12, "rest", "()I"⟩
abbrev cX12_bag : ByteArray := prog_14_method_8_code
def yX12_bag : MethodName := ⟨RX12, "bag", "(II)I"⟩
abbrev cX12_feed : ByteArray := prog_14_method_9_code
def yX12_feed : MethodName := ⟨RX12, "feed", "(I)I"⟩
abbrev cX12_here : ByteArray := prog_14_method_10_code
def yX12_here : MethodName := ⟨RX12, "here", "()I"⟩
abbrev cX12_must : ByteArray := prog_14_method_11_code
def yX12_must : MethodName := ⟨RX12, "must", "(I)V"⟩
abbrev cX12_spells : ByteArray := prog_14_method_12_code
def yX12_spells : MethodName := ⟨RX12, "spells", "(Ljava/lang/String;)V"⟩
abbrev cX12_figures : ByteArray := prog_14_method_13_code
def yX12_figures : MethodName := ⟨RX12, "figures", "()I"⟩
abbrev cX12_workHere : ByteArray := prog_14_method_14_code
def yX12_workHere : MethodName := ⟨RX12, "workHere", "()I"⟩
abbrev cX12_among : ByteArray := prog_14_method_15_code
def yX12_among : MethodName := ⟨RX12, "among", "(Ljava/lang/String;)I"⟩
abbrev cX12_emits : ByteArray := prog_14_method_16_code
def yX12_emits : MethodName := ⟨RX12, "emits", "(I)V"⟩
abbrev cX12_factor : ByteArray := prog_14_method_17_code
def yX12_factor : MethodName := ⟨RX12, "factor", "()V"⟩
abbrev cX12_every : ByteArray := prog_14_method_18_code
def yX12_every : MethodName := ⟨RX12, "every", "()V"⟩
abbrev cX12_some : ByteArray := prog_14_method_19_code
def yX12_some : MethodName := ⟨RX12, "some", "()V"⟩
abbrev cX12_clauseOfC : ByteArray := prog_14_method_20_code
def yX12_clauseOfC : MethodName := ⟨RX12, "clauseOfC", "()V"⟩
abbrev cX12_payHere : ByteArray := prog_14_method_21_code
def yX12_payHere : MethodName := ⟨RX12, "payHere", "()V"⟩
abbrev cX12_clauseHere : ByteArray := prog_14_method_22_code
def yX12_clauseHere : MethodName := ⟨RX12, "clauseHere", "()V"⟩
abbrev cX12_valley : ByteArray := prog_14_method_23_code
def yX12_valley : MethodName := ⟨RX12, "valley", "()I"⟩
abbrev cX12_pay : ByteArray := prog_14_method_24_code
def yX12_pay : MethodName := ⟨RX12, "pay", "(I)I"⟩
abbrev cX12_coverTold : ByteArray := prog_14_method_25_code
def yX12_coverTold : MethodName := ⟨RX12, "coverTold", "()I"⟩
abbrev cX12_told : ByteArray := prog_14_method_26_code
def yX12_told : MethodName := ⟨RX12, "told", "(I)I"⟩
abbrev cX12_stage : ByteArray := prog_14_method_27_code
def yX12_stage : MethodName := ⟨RX12, "stage", "(II)I"⟩
abbrev cX12_stateOf : ByteArray := prog_14_method_28_code
def yX12_stateOf : MethodName := ⟨RX12, "stateOf", "(IIII)I"⟩
abbrev cX12_stateNow : ByteArray := prog_14_method_29_code
def yX12_stateNow : MethodName := ⟨RX12, "stateNow", "()I"⟩
abbrev cX12_left : ByteArray := prog_14_method_30_code
def yX12_left : MethodName := ⟨RX12, "left", "(II)I"⟩
abbrev cX12_leftInAll : ByteArray := prog_14_method_31_code
def yX12_leftInAll : MethodName := ⟨RX12, "leftInAll", "(I)I"⟩
abbrev cX12_stageOf : ByteArray := prog_14_method_32_code
def yX12_stageOf : MethodName := ⟨RX12, "stageOf", "(II)I"⟩
abbrev cX12_drawn : ByteArray := prog_14_method_33_code
def yX12_drawn : MethodName := ⟨RX12, "drawn", "(II)I"⟩
abbrev cX12_done : ByteArray := prog_14_method_34_code
def yX12_done : MethodName := ⟨RX12, "done", "(II)I"⟩
abbrev cX12_asksFromNow : ByteArray := prog_14_method_35_code
def yX12_asksFromNow : MethodName := ⟨RX12, "asksFromNow", "()V"⟩
abbrev cX12_can : ByteArray := prog_14_method_36_code
def yX12_can : MethodName := ⟨RX12, "can", "(III)Z"⟩
abbrev cX12_canOn : ByteArray := prog_14_method_37_code
def yX12_canOn : MethodName := ⟨RX12, "canOn", "(III)Z"⟩
abbrev cX12_pays : ByteArray := prog_14_method_38_code
def yX12_pays : MethodName := ⟨RX12, "pays", "(II)I"⟩
abbrev cX12_ordersWith : ByteArray := prog_14_method_39_code
def yX12_ordersWith : MethodName := ⟨RX12, "ordersWith", "(III)J"⟩
abbrev cX12_ordersOf : ByteArray := prog_14_method_40_code
def yX12_ordersOf : MethodName := ⟨RX12, "ordersOf", "(I)J"⟩
abbrev cX12_chooses : ByteArray := prog_14_method_41_code
def yX12_chooses : MethodName := ⟨RX12, "chooses", "(II)J"⟩
abbrev cX12_bestOn : ByteArray := prog_14_method_42_code
def yX12_bestOn : MethodName := ⟨RX12, "bestOn", "(II)J"⟩
abbrev cX12_best : ByteArray := prog_14_method_43_code
def yX12_best : MethodName := ⟨RX12, "best", "(I)J"⟩
abbrev cX12_looks : ByteArray := prog_14_method_44_code
def yX12_looks : MethodName := ⟨RX12, "looks", "()V"⟩
abbrev cX12_worker : ByteArray := prog_14_method_45_code
def yX12_worker : MethodName := ⟨RX12, "worker", "(II)I"⟩
abbrev cX12_row : ByteArray := prog_14_method_46_code
def yX12_row : MethodName := ⟨RX12, "row", "(III)I"⟩
abbrev cX12_plainly : ByteArray := prog_14_method_47_code
def yX12_plainly : MethodName := ⟨RX12, "plainly", "(II)I"⟩
abbrev cX12_leftOne : ByteArray := prog_14_method_48_code
def yX12_leftOne : MethodName := ⟨RX12, "leftOne", "(II)I"⟩
abbrev cX12_surely : ByteArray := prog_14_method_49_code
def yX12_surely : MethodName := ⟨RX12, "surely", "(II)I"⟩
abbrev cX12_waiting : ByteArray := prog_14_method_50_code
def yX12_waiting : MethodName := ⟨RX12, "waiting", "(III)I"⟩
abbrev cX12_bestly : ByteArray := prog_14_method_51_code
def yX12_bestly : MethodName := ⟨RX12, "bestly", "(II)I"⟩
abbrev cX12_doesOn : ByteArray := prog_14_method_52_code
def yX12_doesOn : MethodName := ⟨RX12, "doesOn", "(III)I"⟩
abbrev cX12_of : ByteArray := prog_14_method_53_code
def yX12_of : MethodName := ⟨RX12, "of", "(II)I"⟩
abbrev cX12_draw : ByteArray := prog_14_method_54_code
def yX12_draw : MethodName := ⟨RX12, "draw", "(II)I"⟩
abbrev cX12_divisor : ByteArray := prog_14_method_55_code
def yX12_divisor : MethodName := ⟨RX12, "divisor", "(JJ)J"⟩
abbrev cX12_lowest : ByteArray := prog_14_method_56_code
def yX12_lowest : MethodName := ⟨RX12, "lowest", "(JJI)J"⟩
abbrev cX12_next : ByteArray := prog_14_method_57_code
def yX12_next : MethodName := ⟨RX12, "next", "(II)J"⟩
abbrev cX12_run : ByteArray := prog_14_method_58_code
def yX12_run : MethodName := ⟨RX12, "run", "(III)J"⟩
abbrev cX12_by : ByteArray := prog_14_method_59_code
def yX12_by : MethodName := ⟨RX12, "by", "(IIII)J"⟩
abbrev cX12_first : ByteArray := prog_14_method_60_code
def yX12_first : MethodName := ⟨RX12, "first", "(II)J"⟩
abbrev cX12_before : ByteArray := prog_14_method_61_code
def yX12_before : MethodName := ⟨RX12, "before", "(III)J"⟩
abbrev cX12_orders : ByteArray := prog_14_method_62_code
def yX12_orders : MethodName := ⟨RX12, "orders", "()J"⟩
abbrev cX12_goesThrough : ByteArray := prog_14_method_63_code
def yX12_goesThrough : MethodName := ⟨RX12, "goesThrough", "(II)V"⟩
abbrev cX12_mean : ByteArray := prog_14_method_64_code
def yX12_mean : MethodName := ⟨RX12, "mean", "(III)J"⟩
abbrev cX12_today : ByteArray := prog_14_method_65_code
def yX12_today : MethodName := ⟨RX12, "today", "(I)I"⟩
abbrev cX12_isSure : ByteArray := prog_14_method_66_code
def yX12_isSure : MethodName := ⟨RX12, "isSure", "(II)Z"⟩
abbrev cX12_whatever : ByteArray := prog_14_method_67_code
def yX12_whatever : MethodName := ⟨RX12, "whatever", "()I"⟩
abbrev cX12_mostFrom : ByteArray := prog_14_method_68_code
def yX12_mostFrom : MethodName := ⟨RX12, "mostFrom", "(I)I"⟩
abbrev cX12_most : ByteArray := prog_14_method_69_code
def yX12_most : MethodName := ⟨RX12, "most", "()I"⟩
abbrev cX12_less : ByteArray := prog_14_method_70_code
def yX12_less : MethodName := ⟨RX12, "less", "(JJJJI)J"⟩
abbrev cX12_put : ByteArray := prog_14_method_71_code
def yX12_put : MethodName := ⟨RX12, "put", "(II)J"⟩
abbrev cX12_pass : ByteArray := prog_14_method_72_code
def yX12_pass : MethodName := ⟨RX12, "pass", "(II)J"⟩
abbrev cX12_cover : ByteArray := prog_14_method_73_code
def yX12_cover : MethodName := ⟨RX12, "cover", "(III)J"⟩
abbrev cX12_barred : ByteArray := prog_14_method_74_code
def yX12_barred : MethodName := ⟨RX12, "barred", "(II)J"⟩
abbrev cX12_right : ByteArray := prog_14_method_75_code
def yX12_right : MethodName := ⟨RX12, "right", "(II)J"⟩
abbrev cX12_book : ByteArray := prog_14_method_76_code
def yX12_book : MethodName := ⟨RX12, "book", "(I)I"⟩
abbrev cX12_toldAhead : ByteArray := prog_14_method_77_code
def yX12_toldAhead : MethodName := ⟨RX12, "toldAhead", "(II)I"⟩
abbrev cX12_oddsFrom : ByteArray := prog_14_method_78_code
def yX12_oddsFrom : MethodName := ⟨RX12, "oddsFrom", "(I)V"⟩
abbrev cX12_likely : ByteArray := prog_14_method_79_code
def yX12_likely : MethodName := ⟨RX12, "likely", "(I)J"⟩
abbrev cX12_judged : ByteArray := prog_14_method_80_code
def yX12_judged : MethodName := ⟨RX12, "judged", "(II)I"⟩
abbrev cX12_other : ByteArray := prog_14_method_81_code
def yX12_other : MethodName := ⟨RX12, "other", "(II)I"⟩
abbrev cX12_against : ByteArray := prog_14_method_82_code
def yX12_against : MethodName := ⟨RX12, "against", "(JJJJ)I"⟩
abbrev cX12_same : ByteArray := prog_14_method_83_code
def yX12_same : MethodName := ⟨RX12, "same", "()I"⟩
abbrev cX12_ranBody : ByteArray := prog_14_method_84_code
def yX12_ranBody : MethodName := ⟨RX12, "ranBody", "(I)V"⟩
abbrev cX12_isUnder : ByteArray := prog_14_method_85_code
def yX12_isUnder : MethodName := ⟨RX12, "isUnder", "(II)Z"⟩
abbrev cX12_plainSows : ByteArray := prog_14_method_86_code
def yX12_plainSows : MethodName := ⟨RX12, "plainSows", "(I)I"⟩
abbrev cX12_sowsActs : ByteArray := prog_14_method_87_code
def yX12_sowsActs : MethodName := ⟨RX12, "sowsActs", "(I)I"⟩
abbrev cX12_plainCuts : ByteArray := prog_14_method_88_code
def yX12_plainCuts : MethodName := ⟨RX12, "plainCuts", "(I)I"⟩
abbrev cX12_cutsActs : ByteArray := prog_14_method_89_code
def yX12_cutsActs : MethodName := ⟨RX12, "cutsActs", "(I)I"⟩
abbrev cX12_plainTells : ByteArray := prog_14_method_90_code
def yX12_plainTells : MethodName := ⟨RX12, "plainTells", "(I)I"⟩
abbrev cX12_tellsActs : ByteArray := prog_14_method_91_code
def yX12_tellsActs : MethodName := ⟨RX12, "tellsActs", "(I)I"⟩
abbrev cX12_act : ByteArray := prog_14_method_92_code
def yX12_act : MethodName := ⟨RX12, "act", "(III)I"⟩
abbrev cX12_trace : ByteArray := prog_14_method_93_code
def yX12_trace : MethodName := ⟨RX12, "trace", "(I)I"⟩
abbrev cX12_as : ByteArray := prog_14_method_94_code
def yX12_as : MethodName := ⟨RX12, "as", "(II)I"⟩
abbrev cX12_image : ByteArray := prog_14_method_95_code
def yX12_image : MethodName := ⟨RX12, "image", "()I"⟩
abbrev cX12_undo : ByteArray := prog_14_method_96_code
def yX12_undo : MethodName := ⟨RX12, "undo", "()I"⟩
abbrev cX12_count : ByteArray := prog_14_method_97_code
def yX12_count : MethodName := ⟨RX12, "count", "(I)I"⟩
def RJx145de : String := "java/io/Serializable"
def TJx145de : u_T := fun k => match k with
  | _ => ("", "", "", false)
def tyJx145de : Nat → FieldType := fun k => match k with
  | _ => .int
theorem nmJx145de : ∀ a, a < 0 → ∀ b, b < 0 → a ≠ b → (TJx145de a).2.1 ≠ (TJx145de b).2.1 := by decide +kernel
theorem tyJx145de_ok : ∀ k, k < 0 → parseFieldDescriptor (TJx145de k).2.2.1 = some (tyJx145de k) := by decide +kernel
def RJx9f9b0 : String := "java/lang/CharSequence"
def TJx9f9b0 : u_T := fun k => match k with
  | _ => ("", "", "", false)
def tyJx9f9b0 : Nat → FieldType := fun k => match k with
  | _ => .int
theorem nmJx9f9b0 : ∀ a, a < 0 → ∀ b, b < 0 → a ≠ b → (TJx9f9b0 a).2.1 ≠ (TJx9f9b0 b).2.1 := by decide +kernel
theorem tyJx9f9b0_ok : ∀ k, k < 0 → parseFieldDescriptor (TJx9f9b0 k).2.2.1 = some (tyJx9f9b0 k) := by decide +kernel
def RJ11 : String := "java/lang/Character"
def TJ11 : u_T := fun k => match k with
  | _ => ("", "", "", false)
def tyJ11 : Nat → FieldType := fun k => match k with
  | _ => .int
theorem nmJ11 : ∀ a, a < 0 → ∀ b, b < 0 → a ≠ b → (TJ11 a).2.1 ≠ (TJ11 b).2.1 := by decide +kernel
theorem tyJ11_ok : ∀ k, k < 0 → parseFieldDescriptor (TJ11 k).2.2.1 = some (tyJ11 k) := by decide +kernel
abbrev cJ11_isValidCodePoint_9a6ad : ByteArray := prog_15_method_11_code
def yJ11_isValidCodePoint_9a6ad : MethodName := ⟨RJ11, "isValidCodePoint", "(I)Z"⟩
abbrev cJ11_highSurrogate_5068e : ByteArray := prog_15_method_28_code
def yJ11_highSurrogate_5068e : MethodName := ⟨RJ11, "highSurrogate", "(I)C"⟩
abbrev cJ11_lowSurrogate_5068e : ByteArray := prog_15_method_29_code
def yJ11_lowSurrogate_5068e : MethodName := ⟨RJ11, "lowSurrogate", "(I)C"⟩
def RJx8e188 : String := "java/lang/Cloneable"
def TJx8e188 : u_T := fun k => match k with
  | _ => ("", "", "", false)
def tyJx8e188 : Nat → FieldType := fun k => match k with
  | _ => .int
theorem nmJx8e188 : ∀ a, a < 0 → ∀ b, b < 0 → a ≠ b → (TJx8e188 a).2.1 ≠ (TJx8e188 b).2.1 := by decide +kernel
theorem tyJx8e188_ok : ∀ k, k < 0 → parseFieldDescriptor (TJx8e188 k).2.2.1 = some (tyJx8e188 k) := by decide +kernel
def RJxb160c : String := "java/lang/Comparable"
def TJxb160c : u_T := fun k => match k with
  | _ => ("", "", "", false)
def tyJxb160c : Nat → FieldType := fun k => match k with
  | _ => .int
theorem nmJxb160c : ∀ a, a < 0 → ∀ b, b < 0 → a ≠ b → (TJxb160c a).2.1 ≠ (TJxb160c b).2.1 := by decide +kernel
theorem tyJxb160c_ok : ∀ k, k < 0 → parseFieldDescriptor (TJxb160c k).2.2.1 = some (tyJxb160c k) := by decide +kernel
def RJ9 : String := "java/lang/Math"
def TJ9 : u_T := fun k => match k with
  | _ => ("", "", "", false)
def tyJ9 : Nat → FieldType := fun k => match k with
  | _ => .int
theorem nmJ9 : ∀ a, a < 0 → ∀ b, b < 0 → a ≠ b → (TJ9 a).2.1 ≠ (TJ9 b).2.1 := by decide +kernel
theorem tyJ9_ok : ∀ k, k < 0 → parseFieldDescriptor (TJ9 k).2.2.1 = some (tyJ9 k) := by decide +kernel
abbrev cJ9_abs_067f4 : ByteArray := prog_17_method_61_code
def yJ9_abs_067f4 : MethodName := ⟨RJ9, "abs", "(J)J"⟩
abbrev cJ9_max_7cf53 : ByteArray := prog_17_method_65_code
def yJ9_max_7cf53 : MethodName := ⟨RJ9, "max", "(II)I"⟩
abbrev cJ9_min_7cf53 : ByteArray := prog_17_method_69_code
def yJ9_min_7cf53 : MethodName := ⟨RJ9, "min", "(II)I"⟩
def RJ0 : String := "java/lang/String"
def TJ0 : u_T := fun k => match k with
  | _ => ("", "", "", false)
def tyJ0 : Nat → FieldType := fun k => match k with
  | _ => .int
theorem nmJ0 : ∀ a, a < 0 → ∀ b, b < 0 → a ≠ b → (TJ0 a).2.1 ≠ (TJ0 b).2.1 := by decide +kernel
theorem tyJ0_ok : ∀ k, k < 0 → parseFieldDescriptor (TJ0 k).2.2.1 = some (tyJ0 k) := by decide +kernel
abbrev cJ0_length_8abf5 : ByteArray := prog_18_method_54_code
def yJ0_length_8abf5 : MethodName := ⟨RJ0, "length", "()I"⟩
abbrev cJ0_charAt_5068e : ByteArray := prog_18_method_56_code
def yJ0_charAt_5068e : MethodName := ⟨RJ0, "charAt", "(I)C"⟩
abbrev cJ0_indexOf_0f7a4 : ByteArray := prog_18_method_79_code
def yJ0_indexOf_0f7a4 : MethodName := ⟨RJ0, "indexOf", "(I)I"⟩
abbrev cJ0_indexOf_7cf53 : ByteArray := prog_18_method_80_code
def yJ0_indexOf_7cf53 : MethodName := ⟨RJ0, "indexOf", "(II)I"⟩
abbrev cJ0_coder_7d493 : ByteArray := prog_18_method_152_code
def yJ0_coder_7d493 : MethodName := ⟨RJ0, "coder", "()B"⟩
abbrev cJ0_isLatin1_aae02 : ByteArray := prog_18_method_154_code
def yJ0_isLatin1_aae02 : MethodName := ⟨RJ0, "isLatin1", "()Z"⟩
abbrev cJ0_checkIndex_df160 : ByteArray := prog_18_method_155_code
def yJ0_checkIndex_df160 : MethodName := ⟨RJ0, "checkIndex", "(II)V"⟩
abbrev cJ0_checkBoundsBeginEnd_23922 : ByteArray := prog_18_method_158_code
def yJ0_checkBoundsBeginEnd_23922 : MethodName := ⟨RJ0, "checkBoundsBeginEnd", "(III)V"⟩
def RJ1 : String := "java/lang/StringLatin1"
def TJ1 : u_T := fun k => match k with
  | _ => ("", "", "", false)
def tyJ1 : Nat → FieldType := fun k => match k with
  | _ => .int
theorem nmJ1 : ∀ a, a < 0 → ∀ b, b < 0 → a ≠ b → (TJ1 a).2.1 ≠ (TJ1 b).2.1 := by decide +kernel
theorem tyJ1_ok : ∀ k, k < 0 → parseFieldDescriptor (TJ1 k).2.2.1 = some (tyJ1 k) := by decide +kernel
abbrev cJ1_charAt_3b067 : ByteArray := prog_19_method_2_code
def yJ1_charAt_3b067 : MethodName := ⟨RJ1, "charAt", "([BI)C"⟩
abbrev cJ1_canEncode_9a6ad : ByteArray := prog_19_method_4_code
def yJ1_canEncode_9a6ad : MethodName := ⟨RJ1, "canEncode", "(I)Z"⟩
abbrev cJ1_indexOf_4cfef : ByteArray := prog_19_method_22_code
def yJ1_indexOf_4cfef : MethodName := ⟨RJ1, "indexOf", "([BIII)I"⟩
abbrev cJ1_indexOfChar_4cfef : ByteArray := prog_19_method_23_code
def yJ1_indexOfChar_4cfef : MethodName := ⟨RJ1, "indexOfChar", "([BIII)I"⟩
def RJ2 : String := "java/lang/StringUTF16"
def TJ2 : u_T := fun k => match k with
  | _ => ("", "", "", false)
def tyJ2 : Nat → FieldType := fun k => match k with
  | _ => .int
theorem nmJ2 : ∀ a, a < 0 → ∀ b, b < 0 → a ≠ b → (TJ2 a).2.1 ≠ (TJ2 b).2.1 := by decide +kernel
theorem tyJ2_ok : ∀ k, k < 0 → parseFieldDescriptor (TJ2 k).2.2.1 = some (tyJ2 k) := by decide +kernel
abbrev cJ2_getChar_3b067 : ByteArray := prog_20_method_5_code
def yJ2_getChar_3b067 : MethodName := ⟨RJ2, "getChar", "([BI)C"⟩
abbrev cJ2_length_9d52b : ByteArray := prog_20_method_6_code
def yJ2_length_9d52b : MethodName := ⟨RJ2, "length", "([B)I"⟩
abbrev cJ2_indexOf_4cfef : ByteArray := prog_20_method_40_code
def yJ2_indexOf_4cfef : MethodName := ⟨RJ2, "indexOf", "([BIII)I"⟩
abbrev cJ2_indexOfChar_4cfef : ByteArray := prog_20_method_47_code
def yJ2_indexOfChar_4cfef : MethodName := ⟨RJ2, "indexOfChar", "([BIII)I"⟩
abbrev cJ2_indexOfCharUnsafe_4cfef : ByteArray := prog_20_method_48_code
def yJ2_indexOfCharUnsafe_4cfef : MethodName := ⟨RJ2, "indexOfCharUnsafe", "([BIII)I"⟩
abbrev cJ2_indexOfSupplementary_4cfef : ByteArray := prog_20_method_49_code
def yJ2_indexOfSupplementary_4cfef : MethodName := ⟨RJ2, "indexOfSupplementary", "([BIII)I"⟩
abbrev cJ2_charAt_3b067 : ByteArray := prog_20_method_83_code
def yJ2_charAt_3b067 : MethodName := ⟨RJ2, "charAt", "([BI)C"⟩
abbrev cJ2_checkIndex_2214a : ByteArray := prog_20_method_91_code
def yJ2_checkIndex_2214a : MethodName := ⟨RJ2, "checkIndex", "(I[B)V"⟩
abbrev cJ2_checkBoundsBeginEnd_d044e : ByteArray := prog_20_method_93_code
def yJ2_checkBoundsBeginEnd_d044e : MethodName := ⟨RJ2, "checkBoundsBeginEnd", "(II[B)V"⟩
def RJ10 : String := "java/lang/System"
def TJ10 : u_T := fun k => match k with
  | _ => ("", "", "", false)
def tyJ10 : Nat → FieldType := fun k => match k with
  | _ => .int
theorem nmJ10 : ∀ a, a < 0 → ∀ b, b < 0 → a ≠ b → (TJ10 a).2.1 ≠ (TJ10 b).2.1 := by decide +kernel
theorem tyJ10_ok : ∀ k, k < 0 → parseFieldDescriptor (TJ10 k).2.2.1 = some (tyJ10 k) := by decide +kernel
def RJxfd54e : String := "java/lang/constant/Constable"
def TJxfd54e : u_T := fun k => match k with
  | _ => ("", "", "", false)
def tyJxfd54e : Nat → FieldType := fun k => match k with
  | _ => .int
theorem nmJxfd54e : ∀ a, a < 0 → ∀ b, b < 0 → a ≠ b → (TJxfd54e a).2.1 ≠ (TJxfd54e b).2.1 := by decide +kernel
theorem tyJxfd54e_ok : ∀ k, k < 0 → parseFieldDescriptor (TJxfd54e k).2.2.1 = some (tyJxfd54e k) := by decide +kernel
def RJx3cf43 : String := "java/lang/constant/ConstantDesc"
def TJx3cf43 : u_T := fun k => match k with
  | _ => ("", "", "", false)
def tyJx3cf43 : Nat → FieldType := fun k => match k with
  | _ => .int
theorem nmJx3cf43 : ∀ a, a < 0 → ∀ b, b < 0 → a ≠ b → (TJx3cf43 a).2.1 ≠ (TJx3cf43 b).2.1 := by decide +kernel
theorem tyJx3cf43_ok : ∀ k, k < 0 → parseFieldDescriptor (TJx3cf43 k).2.2.1 = some (tyJx3cf43 k) := by decide +kernel
def RJ7 : String := "java/util/Arrays"
def TJ7 : u_T := fun k => match k with
  | _ => ("", "", "", false)
def tyJ7 : Nat → FieldType := fun k => match k with
  | _ => .int
theorem nmJ7 : ∀ a, a < 0 → ∀ b, b < 0 → a ≠ b → (TJ7 a).2.1 ≠ (TJ7 b).2.1 := by decide +kernel
theorem tyJ7_ok : ∀ k, k < 0 → parseFieldDescriptor (TJ7 k).2.2.1 = some (tyJ7 k) := by decide +kernel
abbrev cJ7_fill_53178 : ByteArray := prog_22_method_103_code
def yJ7_fill_53178 : MethodName := ⟨RJ7, "fill", "([II)V"⟩
abbrev cJ7_copyOf_59c91 : ByteArray := prog_22_method_123_code
def yJ7_copyOf_59c91 : MethodName := ⟨RJ7, "copyOf", "([II)[I"⟩
def RJ3 : String := "jdk/internal/util/Preconditions"
def TJ3 : u_T := fun k => match k with
  | _ => ("", "", "", false)
def tyJ3 : Nat → FieldType := fun k => match k with
  | _ => .int
theorem nmJ3 : ∀ a, a < 0 → ∀ b, b < 0 → a ≠ b → (TJ3 a).2.1 ≠ (TJ3 b).2.1 := by decide +kernel
theorem tyJ3_ok : ∀ k, k < 0 → parseFieldDescriptor (TJ3 k).2.2.1 = some (tyJ3 k) := by decide +kernel
abbrev cJ3_checkIndex_8e157 : ByteArray := prog_23_method_11_code
def yJ3_checkIndex_8e157 : MethodName := ⟨RJ3, "checkIndex", "(IILjava/util/function/BiFunction;)I"⟩
abbrev cJ3_checkFromToIndex_8c36e : ByteArray := prog_23_method_12_code
def yJ3_checkFromToIndex_8c36e : MethodName := ⟨RJ3, "checkFromToIndex", "(IIILjava/util/function/BiFunction;)I"⟩
def RL : String := "DaysBagLaw"
abbrev cL_law : ByteArray := code
def yL_law : MethodName := ⟨RL, "law", "([I)Z"⟩
abbrev vwCl : List vw_C := [(RX0, TX0, 10), (RX1, TX1, 3), (RX2, TX2, 3), (RX3, TX3, 3), (RX4, TX4, 10), (RX5, TX5, 12), (RX6, TX6, 3), (RX7, TX7, 4), (RX8, TX8, 5), (RX9, TX9, 3), (RX10, TX10, 3), (RX11, TX11, 7), (RX12, TX12, 33)]
end
section
theorem dX0_init_0 : decode cX0_init 0 = .ok (.aload_n 0, 1) := by decide +kernel
theorem dX0_init_1 : decode cX0_init 1 = .ok (.invokespecial 3, 3) := by decide +kernel
theorem dX0_init_4 : decode cX0_init 4 = .ok (.aload_n 0, 1) := by decide +kernel
theorem dX0_init_5 : decode cX0_init 5 = .ok (.iconst 3, 1) := by decide +kernel
theorem dX0_init_6 : decode cX0_init 6 = .ok (.newarray .int, 2) := by decide +kernel
theorem dX0_init_8 : decode cX0_init 8 = .ok (.putfield 9, 3) := by decide +kernel
theorem dX0_init_11 : decode cX0_init 11 = .ok (.aload_n 0, 1) := by decide +kernel
theorem dX0_init_12 : decode cX0_init 12 = .ok (.iconst (-1), 1) := by decide +kernel
theorem dX0_init_13 : decode cX0_init 13 = .ok (.putfield 15, 3) := by decide +kernel
theorem dX0_init_16 : decode cX0_init 16 = .ok (.aload_n 0, 1) := by decide +kernel
theorem dX0_init_17 : decode cX0_init 17 = .ok (.iconst (-1), 1) := by decide +kernel
theorem dX0_init_18 : decode cX0_init 18 = .ok (.putfield 19, 3) := by decide +kernel
theorem dX0_init_21 : decode cX0_init 21 = .ok (.aload_n 0, 1) := by decide +kernel
theorem dX0_init_22 : decode cX0_init 22 = .ok (.sipush 270, 3) := by decide +kernel
theorem dX0_init_25 : decode cX0_init 25 = .ok (.newarray .int, 2) := by decide +kernel
theorem dX0_init_27 : decode cX0_init 27 = .ok (.putfield 22, 3) := by decide +kernel
theorem dX0_init_30 : decode cX0_init 30 = .ok (.aload_n 0, 1) := by decide +kernel
theorem dX0_init_31 : decode cX0_init 31 = .ok (.iconst 5, 1) := by decide +kernel
theorem dX0_init_32 : decode cX0_init 32 = .ok (.newarray .int, 2) := by decide +kernel
theorem dX0_init_34 : decode cX0_init 34 = .ok (.putfield 25, 3) := by decide +kernel
theorem dX0_init_37 : decode cX0_init 37 = .ok (.aload_n 0, 1) := by decide +kernel
theorem dX0_init_38 : decode cX0_init 38 = .ok (.sipush 5832, 3) := by decide +kernel
theorem dX0_init_41 : decode cX0_init 41 = .ok (.newarray .int, 2) := by decide +kernel
theorem dX0_init_43 : decode cX0_init 43 = .ok (.putfield 28, 3) := by decide +kernel
theorem dX0_init_46 : decode cX0_init 46 = .ok (.aload_n 0, 1) := by decide +kernel
theorem dX0_init_47 : decode cX0_init 47 = .ok (.aload_n 1, 1) := by decide +kernel
theorem dX0_init_48 : decode cX0_init 48 = .ok (.putfield 31, 3) := by decide +kernel
theorem dX0_init_51 : decode cX0_init 51 = .ok (.aload_n 0, 1) := by decide +kernel
theorem dX0_init_52 : decode cX0_init 52 = .ok (.aload_n 2, 1) := by decide +kernel
theorem dX0_init_53 : decode cX0_init 53 = .ok (.putfield 35, 3) := by decide +kernel
theorem dX0_init_56 : decode cX0_init 56 = .ok (.return_, 1) := by decide +kernel
theorem dX0_look_0 : decode cX0_look 0 = .ok (.iconst 0, 1) := by decide +kernel
theorem dX0_look_1 : decode cX0_look 1 = .ok (.istore 4, 2) := by decide +kernel
theorem dX0_look_3 : decode cX0_look 3 = .ok (.iload 4, 2) := by decide +kernel
theorem dX0_look_5 : decode cX0_look 5 = .ok (.iconst 3, 1) := by decide +kernel
theorem dX0_look_6 : decode cX0_look 6 = .ok (.if_icmp .ge 35, 3) := by decide +kernel
theorem dX0_look_9 : decode cX0_look 9 = .ok (.aload_n 0, 1) := by decide +kernel
theorem dX0_look_10 : decode cX0_look 10 = .ok (.getfield 9, 3) := by decide +kernel
theorem dX0_look_13 : decode cX0_look 13 = .ok (.iload 4, 2) := by decide +kernel
theorem dX0_look_15 : decode cX0_look 15 = .ok (.aload_n 1, 1) := by decide +kernel
theorem dX0_look_16 : decode cX0_look 16 = .ok (.getfield 38, 3) := by decide +kernel
theorem dX0_look_19 : decode cX0_look 19 = .ok (.iload 4, 2) := by decide +kernel
theorem dX0_look_21 : decode cX0_look 21 = .ok (.iaload, 1) := by decide +kernel
theorem dX0_look_22 : decode cX0_look 22 = .ok (.iload 4, 2) := by decide +kernel
theorem dX0_look_24 : decode cX0_look 24 = .ok (.iload_n 2, 1) := by decide +kernel
theorem dX0_look_25 : decode cX0_look 25 = .ok (.if_icmp .ne 7, 3) := by decide +kernel
theorem dX0_look_28 : decode cX0_look 28 = .ok (.iconst 1, 1) := by decide +kernel
theorem dX0_look_29 : decode cX0_look 29 = .ok (.goto 4, 3) := by decide +kernel
theorem dX0_look_32 : decode cX0_look 32 = .ok (.iconst 0, 1) := by decide +kernel
theorem dX0_look_33 : decode cX0_look 33 = .ok (.iadd, 1) := by decide +kernel
theorem dX0_look_34 : decode cX0_look 34 = .ok (.iastore, 1) := by decide +kernel
theorem dX0_look_35 : decode cX0_look 35 = .ok (.iinc 4 1, 3) := by decide +kernel
theorem dX0_look_38 : decode cX0_look 38 = .ok (.goto (-35), 3) := by decide +kernel
theorem dX0_look_41 : decode cX0_look 41 = .ok (.aload_n 0, 1) := by decide +kernel
theorem dX0_look_42 : decode cX0_look 42 = .ok (.aload_n 0, 1) := by decide +kernel
theorem dX0_look_43 : decode cX0_look 43 = .ok (.getfield 9, 3) := by decide +kernel
theorem dX0_look_46 : decode cX0_look 46 = .ok (.invokestatic 43, 3) := by decide +kernel
theorem dX0_look_49 : decode cX0_look 49 = .ok (.putfield 47, 3) := by decide +kernel
theorem dX0_look_52 : decode cX0_look 52 = .ok (.aload_n 1, 1) := by decide +kernel
theorem dX0_look_53 : decode cX0_look 53 = .ok (.getfield 50, 3) := by decide +kernel
theorem dX0_look_56 : decode cX0_look 56 = .ok (.aload_n 0, 1) := by decide +kernel
theorem dX0_look_57 : decode cX0_look 57 = .ok (.getfield 47, 3) := by decide +kernel
theorem dX0_look_60 : decode cX0_look 60 = .ok (.iadd, 1) := by decide +kernel
theorem dX0_look_61 : decode cX0_look 61 = .ok (.istore 4, 2) := by decide +kernel
theorem dX0_look_63 : decode cX0_look 63 = .ok (.iload_n 3, 1) := by decide +kernel
theorem dX0_look_64 : decode cX0_look 64 = .ok (.ifCond .lt 19, 3) := by decide +kernel
theorem dX0_look_67 : decode cX0_look 67 = .ok (.iload_n 3, 1) := by decide +kernel
theorem dX0_look_68 : decode cX0_look 68 = .ok (.iconst 3, 1) := by decide +kernel
theorem dX0_look_69 : decode cX0_look 69 = .ok (.if_icmp .ge 14, 3) := by decide +kernel
theorem dX0_look_72 : decode cX0_look 72 = .ok (.aload_n 0, 1) := by decide +kernel
theorem dX0_look_73 : decode cX0_look 73 = .ok (.getfield 9, 3) := by decide +kernel
theorem dX0_look_76 : decode cX0_look 76 = .ok (.iload_n 3, 1) := by decide +kernel
theorem dX0_look_77 : decode cX0_look 77 = .ok (.iaload, 1) := by decide +kernel
theorem dX0_look_78 : decode cX0_look 78 = .ok (.iconst 1, 1) := by decide +kernel
theorem dX0_look_79 : decode cX0_look 79 = .ok (.isub, 1) := by decide +kernel
theorem dX0_look_80 : decode cX0_look 80 = .ok (.goto 4, 3) := by decide +kernel
theorem dX0_look_83 : decode cX0_look 83 = .ok (.iconst 0, 1) := by decide +kernel
theorem dX0_look_84 : decode cX0_look 84 = .ok (.istore 5, 2) := by decide +kernel
theorem dX0_look_86 : decode cX0_look 86 = .ok (.aload_n 1, 1) := by decide +kernel
theorem dX0_look_87 : decode cX0_look 87 = .ok (.getfield 52, 3) := by decide +kernel
theorem dX0_look_90 : decode cX0_look 90 = .ok (.aload_n 0, 1) := by decide +kernel
theorem dX0_look_91 : decode cX0_look 91 = .ok (.getfield 31, 3) := by decide +kernel
theorem dX0_look_94 : decode cX0_look 94 = .ok (.if_acmp .ne 30, 3) := by decide +kernel
theorem dX0_look_97 : decode cX0_look 97 = .ok (.iload 4, 2) := by decide +kernel
theorem dX0_look_99 : decode cX0_look 99 = .ok (.aload_n 0, 1) := by decide +kernel
theorem dX0_look_100 : decode cX0_look 100 = .ok (.getfield 15, 3) := by decide +kernel
theorem dX0_look_103 : decode cX0_look 103 = .ok (.if_icmp .ne 21, 3) := by decide +kernel
theorem dX0_look_106 : decode cX0_look 106 = .ok (.iload_n 3, 1) := by decide +kernel
theorem dX0_look_107 : decode cX0_look 107 = .ok (.aload_n 0, 1) := by decide +kernel
theorem dX0_look_108 : decode cX0_look 108 = .ok (.getfield 19, 3) := by decide +kernel
theorem dX0_look_111 : decode cX0_look 111 = .ok (.if_icmp .ne 13, 3) := by decide +kernel
theorem dX0_look_114 : decode cX0_look 114 = .ok (.iload 5, 2) := by decide +kernel
theorem dX0_look_116 : decode cX0_look 116 = .ok (.aload_n 0, 1) := by decide +kernel
theorem dX0_look_117 : decode cX0_look 117 = .ok (.getfield 55, 3) := by decide +kernel
theorem dX0_look_120 : decode cX0_look 120 = .ok (.if_icmp .ne 4, 3) := by decide +kernel
theorem dX0_look_123 : decode cX0_look 123 = .ok (.return_, 1) := by decide +kernel
theorem dX0_look_124 : decode cX0_look 124 = .ok (.aload_n 0, 1) := by decide +kernel
theorem dX0_look_125 : decode cX0_look 125 = .ok (.aload_n 1, 1) := by decide +kernel
theorem dX0_look_126 : decode cX0_look 126 = .ok (.getfield 52, 3) := by decide +kernel
theorem dX0_look_129 : decode cX0_look 129 = .ok (.putfield 31, 3) := by decide +kernel
theorem dX0_look_132 : decode cX0_look 132 = .ok (.aload_n 0, 1) := by decide +kernel
theorem dX0_look_133 : decode cX0_look 133 = .ok (.iload 4, 2) := by decide +kernel
theorem dX0_look_135 : decode cX0_look 135 = .ok (.putfield 15, 3) := by decide +kernel
theorem dX0_look_138 : decode cX0_look 138 = .ok (.aload_n 0, 1) := by decide +kernel
theorem dX0_look_139 : decode cX0_look 139 = .ok (.iload_n 3, 1) := by decide +kernel
theorem dX0_look_140 : decode cX0_look 140 = .ok (.putfield 19, 3) := by decide +kernel
theorem dX0_look_143 : decode cX0_look 143 = .ok (.aload_n 0, 1) := by decide +kernel
theorem dX0_look_144 : decode cX0_look 144 = .ok (.iload 5, 2) := by decide +kernel
theorem dX0_look_146 : decode cX0_look 146 = .ok (.putfield 55, 3) := by decide +kernel
theorem dX0_look_149 : decode cX0_look 149 = .ok (.aload_n 0, 1) := by decide +kernel
theorem dX0_look_150 : decode cX0_look 150 = .ok (.getfield 22, 3) := by decide +kernel
theorem dX0_look_153 : decode cX0_look 153 = .ok (.iconst (-1), 1) := by decide +kernel
theorem dX0_look_154 : decode cX0_look 154 = .ok (.invokestatic 58, 3) := by decide +kernel
theorem dX0_look_157 : decode cX0_look 157 = .ok (.aload_n 0, 1) := by decide +kernel
theorem dX0_look_158 : decode cX0_look 158 = .ok (.getfield 28, 3) := by decide +kernel
theorem dX0_look_161 : decode cX0_look 161 = .ok (.iconst (-1), 1) := by decide +kernel
theorem dX0_look_162 : decode cX0_look 162 = .ok (.invokestatic 58, 3) := by decide +kernel
theorem dX0_look_165 : decode cX0_look 165 = .ok (.return_, 1) := by decide +kernel
theorem dX0_has_0 : decode cX0_has 0 = .ok (.aload_n 0, 1) := by decide +kernel
theorem dX0_has_1 : decode cX0_has 1 = .ok (.getfield 9, 3) := by decide +kernel
theorem dX0_has_4 : decode cX0_has 4 = .ok (.iload_n 1, 1) := by decide +kernel
theorem dX0_has_5 : decode cX0_has 5 = .ok (.iaload, 1) := by decide +kernel
theorem dX0_has_6 : decode cX0_has 6 = .ok (.ifCond .le 7, 3) := by decide +kernel
theorem dX0_has_9 : decode cX0_has 9 = .ok (.iconst 1, 1) := by decide +kernel
theorem dX0_has_10 : decode cX0_has 10 = .ok (.goto 4, 3) := by decide +kernel
theorem dX0_has_13 : decode cX0_has 13 = .ok (.iconst 0, 1) := by decide +kernel
theorem dX0_has_14 : decode cX0_has 14 = .ok (.ireturn, 1) := by decide +kernel
theorem dX0_take_0 : decode cX0_take 0 = .ok (.aload_n 0, 1) := by decide +kernel
theorem dX0_take_1 : decode cX0_take 1 = .ok (.getfield 9, 3) := by decide +kernel
theorem dX0_take_4 : decode cX0_take 4 = .ok (.iload_n 1, 1) := by decide +kernel
theorem dX0_take_5 : decode cX0_take 5 = .ok (.dup2, 1) := by decide +kernel
theorem dX0_take_6 : decode cX0_take 6 = .ok (.iaload, 1) := by decide +kernel
theorem dX0_take_7 : decode cX0_take 7 = .ok (.iconst 1, 1) := by decide +kernel
theorem dX0_take_8 : decode cX0_take 8 = .ok (.isub, 1) := by decide +kernel
theorem dX0_take_9 : decode cX0_take 9 = .ok (.iastore, 1) := by decide +kernel
theorem dX0_take_10 : decode cX0_take 10 = .ok (.aload_n 0, 1) := by decide +kernel
theorem dX0_take_11 : decode cX0_take 11 = .ok (.dup, 1) := by decide +kernel
theorem dX0_take_12 : decode cX0_take 12 = .ok (.getfield 47, 3) := by decide +kernel
theorem dX0_take_15 : decode cX0_take 15 = .ok (.iconst 1, 1) := by decide +kernel
theorem dX0_take_16 : decode cX0_take 16 = .ok (.isub, 1) := by decide +kernel
theorem dX0_take_17 : decode cX0_take 17 = .ok (.putfield 47, 3) := by decide +kernel
theorem dX0_take_20 : decode cX0_take 20 = .ok (.return_, 1) := by decide +kernel
theorem dX0_back_0 : decode cX0_back 0 = .ok (.aload_n 0, 1) := by decide +kernel
theorem dX0_back_1 : decode cX0_back 1 = .ok (.getfield 9, 3) := by decide +kernel
theorem dX0_back_4 : decode cX0_back 4 = .ok (.iload_n 1, 1) := by decide +kernel
theorem dX0_back_5 : decode cX0_back 5 = .ok (.dup2, 1) := by decide +kernel
theorem dX0_back_6 : decode cX0_back 6 = .ok (.iaload, 1) := by decide +kernel
theorem dX0_back_7 : decode cX0_back 7 = .ok (.iconst 1, 1) := by decide +kernel
theorem dX0_back_8 : decode cX0_back 8 = .ok (.iadd, 1) := by decide +kernel
theorem dX0_back_9 : decode cX0_back 9 = .ok (.iastore, 1) := by decide +kernel
theorem dX0_back_10 : decode cX0_back 10 = .ok (.aload_n 0, 1) := by decide +kernel
theorem dX0_back_11 : decode cX0_back 11 = .ok (.dup, 1) := by decide +kernel
theorem dX0_back_12 : decode cX0_back 12 = .ok (.getfield 47, 3) := by decide +kernel
theorem dX0_back_15 : decode cX0_back 15 = .ok (.iconst 1, 1) := by decide +kernel
theorem dX0_back_16 : decode cX0_back 16 = .ok (.iadd, 1) := by decide +kernel
theorem dX0_back_17 : decode cX0_back 17 = .ok (.putfield 47, 3) := by decide +kernel
theorem dX0_back_20 : decode cX0_back 20 = .ok (.return_, 1) := by decide +kernel
theorem dX0_ways_0 : decode cX0_ways 0 = .ok (.aload_n 0, 1) := by decide +kernel
theorem dX0_ways_1 : decode cX0_ways 1 = .ok (.getfield 47, 3) := by decide +kernel
theorem dX0_ways_4 : decode cX0_ways 4 = .ok (.aload_n 0, 1) := by decide +kernel
theorem dX0_ways_5 : decode cX0_ways 5 = .ok (.getfield 9, 3) := by decide +kernel
theorem dX0_ways_8 : decode cX0_ways 8 = .ok (.iconst 0, 1) := by decide +kernel
theorem dX0_ways_9 : decode cX0_ways 9 = .ok (.iaload, 1) := by decide +kernel
theorem dX0_ways_10 : decode cX0_ways 10 = .ok (.invokestatic 64, 3) := by decide +kernel
theorem dX0_ways_13 : decode cX0_ways 13 = .ok (.aload_n 0, 1) := by decide +kernel
theorem dX0_ways_14 : decode cX0_ways 14 = .ok (.getfield 47, 3) := by decide +kernel
theorem dX0_ways_17 : decode cX0_ways 17 = .ok (.aload_n 0, 1) := by decide +kernel
theorem dX0_ways_18 : decode cX0_ways 18 = .ok (.getfield 9, 3) := by decide +kernel
theorem dX0_ways_21 : decode cX0_ways 21 = .ok (.iconst 0, 1) := by decide +kernel
theorem dX0_ways_22 : decode cX0_ways 22 = .ok (.iaload, 1) := by decide +kernel
theorem dX0_ways_23 : decode cX0_ways 23 = .ok (.isub, 1) := by decide +kernel
theorem dX0_ways_24 : decode cX0_ways 24 = .ok (.aload_n 0, 1) := by decide +kernel
theorem dX0_ways_25 : decode cX0_ways 25 = .ok (.getfield 9, 3) := by decide +kernel
theorem dX0_ways_28 : decode cX0_ways 28 = .ok (.iconst 1, 1) := by decide +kernel
theorem dX0_ways_29 : decode cX0_ways 29 = .ok (.iaload, 1) := by decide +kernel
theorem dX0_ways_30 : decode cX0_ways 30 = .ok (.invokestatic 64, 3) := by decide +kernel
theorem dX0_ways_33 : decode cX0_ways 33 = .ok (.imul, 1) := by decide +kernel
theorem dX0_ways_34 : decode cX0_ways 34 = .ok (.ireturn, 1) := by decide +kernel
theorem dX0_payOf_0 : decode cX0_payOf 0 = .ok (.aload_n 0, 1) := by decide +kernel
theorem dX0_payOf_1 : decode cX0_payOf 1 = .ok (.getfield 31, 3) := by decide +kernel
theorem dX0_payOf_4 : decode cX0_payOf 4 = .ok (.getfield 68, 3) := by decide +kernel
theorem dX0_payOf_7 : decode cX0_payOf 7 = .ok (.iload_n 1, 1) := by decide +kernel
theorem dX0_payOf_8 : decode cX0_payOf 8 = .ok (.iaload, 1) := by decide +kernel
theorem dX0_payOf_9 : decode cX0_payOf 9 = .ok (.ireturn, 1) := by decide +kernel
theorem dX0_place_0 : decode cX0_place 0 = .ok (.aload_n 0, 1) := by decide +kernel
theorem dX0_place_1 : decode cX0_place 1 = .ok (.getfield 9, 3) := by decide +kernel
theorem dX0_place_4 : decode cX0_place 4 = .ok (.iconst 0, 1) := by decide +kernel
theorem dX0_place_5 : decode cX0_place 5 = .ok (.iaload, 1) := by decide +kernel
theorem dX0_place_6 : decode cX0_place 6 = .ok (.bipush 6, 2) := by decide +kernel
theorem dX0_place_8 : decode cX0_place 8 = .ok (.imul, 1) := by decide +kernel
theorem dX0_place_9 : decode cX0_place 9 = .ok (.aload_n 0, 1) := by decide +kernel
theorem dX0_place_10 : decode cX0_place 10 = .ok (.getfield 9, 3) := by decide +kernel
theorem dX0_place_13 : decode cX0_place 13 = .ok (.iconst 1, 1) := by decide +kernel
theorem dX0_place_14 : decode cX0_place 14 = .ok (.iaload, 1) := by decide +kernel
theorem dX0_place_15 : decode cX0_place 15 = .ok (.iadd, 1) := by decide +kernel
theorem dX0_place_16 : decode cX0_place 16 = .ok (.bipush 6, 2) := by decide +kernel
theorem dX0_place_18 : decode cX0_place 18 = .ok (.imul, 1) := by decide +kernel
theorem dX0_place_19 : decode cX0_place 19 = .ok (.aload_n 0, 1) := by decide +kernel
theorem dX0_place_20 : decode cX0_place 20 = .ok (.getfield 9, 3) := by decide +kernel
theorem dX0_place_23 : decode cX0_place 23 = .ok (.iconst 2, 1) := by decide +kernel
theorem dX0_place_24 : decode cX0_place 24 = .ok (.iaload, 1) := by decide +kernel
theorem dX0_place_25 : decode cX0_place 25 = .ok (.iadd, 1) := by decide +kernel
theorem dX0_place_26 : decode cX0_place 26 = .ok (.bipush 27, 2) := by decide +kernel
theorem dX0_place_28 : decode cX0_place 28 = .ok (.imul, 1) := by decide +kernel
theorem dX0_place_29 : decode cX0_place 29 = .ok (.iload_n 1, 1) := by decide +kernel
theorem dX0_place_30 : decode cX0_place 30 = .ok (.iadd, 1) := by decide +kernel
theorem dX0_place_31 : decode cX0_place 31 = .ok (.ireturn, 1) := by decide +kernel
theorem dX0_cans_0 : decode cX0_cans 0 = .ok (.iload_n 1, 1) := by decide +kernel
theorem dX0_cans_1 : decode cX0_cans 1 = .ok (.aload_n 0, 1) := by decide +kernel
theorem dX0_cans_2 : decode cX0_cans 2 = .ok (.getfield 19, 3) := by decide +kernel
theorem dX0_cans_5 : decode cX0_cans 5 = .ok (.if_icmp .ne 18, 3) := by decide +kernel
theorem dX0_cans_8 : decode cX0_cans 8 = .ok (.aload_n 0, 1) := by decide +kernel
theorem dX0_cans_9 : decode cX0_cans 9 = .ok (.getfield 9, 3) := by decide +kernel
theorem dX0_cans_12 : decode cX0_cans 12 = .ok (.iload_n 1, 1) := by decide +kernel
theorem dX0_cans_13 : decode cX0_cans 13 = .ok (.iaload, 1) := by decide +kernel
theorem dX0_cans_14 : decode cX0_cans 14 = .ok (.aload_n 0, 1) := by decide +kernel
theorem dX0_cans_15 : decode cX0_cans 15 = .ok (.getfield 55, 3) := by decide +kernel
theorem dX0_cans_18 : decode cX0_cans 18 = .ok (.if_icmp .ne 5, 3) := by decide +kernel
theorem dX0_cans_21 : decode cX0_cans 21 = .ok (.iconst 0, 1) := by decide +kernel
theorem dX0_cans_22 : decode cX0_cans 22 = .ok (.ireturn, 1) := by decide +kernel
theorem dX0_cans_23 : decode cX0_cans 23 = .ok (.aload_n 0, 1) := by decide +kernel
theorem dX0_cans_24 : decode cX0_cans 24 = .ok (.getfield 47, 3) := by decide +kernel
theorem dX0_cans_27 : decode cX0_cans 27 = .ok (.iconst 3, 1) := by decide +kernel
theorem dX0_cans_28 : decode cX0_cans 28 = .ok (.imul, 1) := by decide +kernel
theorem dX0_cans_29 : decode cX0_cans 29 = .ok (.iload_n 1, 1) := by decide +kernel
theorem dX0_cans_30 : decode cX0_cans 30 = .ok (.iadd, 1) := by decide +kernel
theorem dX0_cans_31 : decode cX0_cans 31 = .ok (.bipush 6, 2) := by decide +kernel
theorem dX0_cans_33 : decode cX0_cans 33 = .ok (.imul, 1) := by decide +kernel
theorem dX0_cans_34 : decode cX0_cans 34 = .ok (.aload_n 0, 1) := by decide +kernel
theorem dX0_cans_35 : decode cX0_cans 35 = .ok (.getfield 9, 3) := by decide +kernel
theorem dX0_cans_38 : decode cX0_cans 38 = .ok (.iload_n 1, 1) := by decide +kernel
theorem dX0_cans_39 : decode cX0_cans 39 = .ok (.iaload, 1) := by decide +kernel
theorem dX0_cans_40 : decode cX0_cans 40 = .ok (.iadd, 1) := by decide +kernel
theorem dX0_cans_41 : decode cX0_cans 41 = .ok (.istore_n 3, 1) := by decide +kernel
theorem dX0_cans_42 : decode cX0_cans 42 = .ok (.aload_n 0, 1) := by decide +kernel
theorem dX0_cans_43 : decode cX0_cans 43 = .ok (.getfield 22, 3) := by decide +kernel
theorem dX0_cans_46 : decode cX0_cans 46 = .ok (.iload_n 3, 1) := by decide +kernel
theorem dX0_cans_47 : decode cX0_cans 47 = .ok (.iaload, 1) := by decide +kernel
theorem dX0_cans_48 : decode cX0_cans 48 = .ok (.iconst (-1), 1) := by decide +kernel
theorem dX0_cans_49 : decode cX0_cans 49 = .ok (.if_icmp .ne 66, 3) := by decide +kernel
theorem dX0_cans_52 : decode cX0_cans 52 = .ok (.aload_n 0, 1) := by decide +kernel
theorem dX0_cans_53 : decode cX0_cans 53 = .ok (.getfield 25, 3) := by decide +kernel
theorem dX0_cans_56 : decode cX0_cans 56 = .ok (.iconst 0, 1) := by decide +kernel
theorem dX0_cans_57 : decode cX0_cans 57 = .ok (.iload_n 1, 1) := by decide +kernel
theorem dX0_cans_58 : decode cX0_cans 58 = .ok (.iastore, 1) := by decide +kernel
theorem dX0_cans_59 : decode cX0_cans 59 = .ok (.aload_n 0, 1) := by decide +kernel
theorem dX0_cans_60 : decode cX0_cans 60 = .ok (.getfield 25, 3) := by decide +kernel
theorem dX0_cans_63 : decode cX0_cans 63 = .ok (.iconst 2, 1) := by decide +kernel
theorem dX0_cans_64 : decode cX0_cans 64 = .ok (.aload_n 0, 1) := by decide +kernel
theorem dX0_cans_65 : decode cX0_cans 65 = .ok (.getfield 47, 3) := by decide +kernel
theorem dX0_cans_68 : decode cX0_cans 68 = .ok (.iastore, 1) := by decide +kernel
theorem dX0_cans_69 : decode cX0_cans 69 = .ok (.aload_n 0, 1) := by decide +kernel
theorem dX0_cans_70 : decode cX0_cans 70 = .ok (.getfield 25, 3) := by decide +kernel
theorem dX0_cans_73 : decode cX0_cans 73 = .ok (.iconst 3, 1) := by decide +kernel
theorem dX0_cans_74 : decode cX0_cans 74 = .ok (.aload_n 0, 1) := by decide +kernel
theorem dX0_cans_75 : decode cX0_cans 75 = .ok (.getfield 9, 3) := by decide +kernel
theorem dX0_cans_78 : decode cX0_cans 78 = .ok (.iload_n 1, 1) := by decide +kernel
theorem dX0_cans_79 : decode cX0_cans 79 = .ok (.iaload, 1) := by decide +kernel
theorem dX0_cans_80 : decode cX0_cans 80 = .ok (.iastore, 1) := by decide +kernel
theorem dX0_cans_81 : decode cX0_cans 81 = .ok (.aload_n 0, 1) := by decide +kernel
theorem dX0_cans_82 : decode cX0_cans 82 = .ok (.getfield 25, 3) := by decide +kernel
theorem dX0_cans_85 : decode cX0_cans 85 = .ok (.iconst 4, 1) := by decide +kernel
theorem dX0_cans_86 : decode cX0_cans 86 = .ok (.aload_n 0, 1) := by decide +kernel
theorem dX0_cans_87 : decode cX0_cans 87 = .ok (.getfield 15, 3) := by decide +kernel
theorem dX0_cans_90 : decode cX0_cans 90 = .ok (.iconst 1, 1) := by decide +kernel
theorem dX0_cans_91 : decode cX0_cans 91 = .ok (.isub, 1) := by decide +kernel
theorem dX0_cans_92 : decode cX0_cans 92 = .ok (.aload_n 0, 1) := by decide +kernel
theorem dX0_cans_93 : decode cX0_cans 93 = .ok (.getfield 47, 3) := by decide +kernel
theorem dX0_cans_96 : decode cX0_cans 96 = .ok (.isub, 1) := by decide +kernel
theorem dX0_cans_97 : decode cX0_cans 97 = .ok (.iastore, 1) := by decide +kernel
theorem dX0_cans_98 : decode cX0_cans 98 = .ok (.aload_n 0, 1) := by decide +kernel
theorem dX0_cans_99 : decode cX0_cans 99 = .ok (.getfield 22, 3) := by decide +kernel
theorem dX0_cans_102 : decode cX0_cans 102 = .ok (.iload_n 3, 1) := by decide +kernel
theorem dX0_cans_103 : decode cX0_cans 103 = .ok (.aload_n 0, 1) := by decide +kernel
theorem dX0_cans_104 : decode cX0_cans 104 = .ok (.getfield 31, 3) := by decide +kernel
theorem dX0_cans_107 : decode cX0_cans 107 = .ok (.aload_n 0, 1) := by decide +kernel
theorem dX0_cans_108 : decode cX0_cans 108 = .ok (.getfield 25, 3) := by decide +kernel
theorem dX0_cans_111 : decode cX0_cans 111 = .ok (.invokevirtual 73, 3) := by decide +kernel
theorem dX0_cans_114 : decode cX0_cans 114 = .ok (.iastore, 1) := by decide +kernel
theorem dX0_cans_115 : decode cX0_cans 115 = .ok (.aload_n 0, 1) := by decide +kernel
theorem dX0_cans_116 : decode cX0_cans 116 = .ok (.getfield 22, 3) := by decide +kernel
theorem dX0_cans_119 : decode cX0_cans 119 = .ok (.iload_n 3, 1) := by decide +kernel
theorem dX0_cans_120 : decode cX0_cans 120 = .ok (.iaload, 1) := by decide +kernel
theorem dX0_cans_121 : decode cX0_cans 121 = .ok (.getstatic 75, 3) := by decide +kernel
theorem dX0_cans_124 : decode cX0_cans 124 = .ok (.iload_n 2, 1) := by decide +kernel
theorem dX0_cans_125 : decode cX0_cans 125 = .ok (.iaload, 1) := by decide +kernel
theorem dX0_cans_126 : decode cX0_cans 126 = .ok (.iand, 1) := by decide +kernel
theorem dX0_cans_127 : decode cX0_cans 127 = .ok (.ireturn, 1) := by decide +kernel
theorem dX0_bestSum_0 : decode cX0_bestSum 0 = .ok (.aload_n 0, 1) := by decide +kernel
theorem dX0_bestSum_1 : decode cX0_bestSum 1 = .ok (.getfield 47, 3) := by decide +kernel
theorem dX0_bestSum_4 : decode cX0_bestSum 4 = .ok (.ifCond .gt 5, 3) := by decide +kernel
theorem dX0_bestSum_7 : decode cX0_bestSum 7 = .ok (.iconst 0, 1) := by decide +kernel
theorem dX0_bestSum_8 : decode cX0_bestSum 8 = .ok (.ireturn, 1) := by decide +kernel
theorem dX0_bestSum_9 : decode cX0_bestSum 9 = .ok (.aload_n 0, 1) := by decide +kernel
theorem dX0_bestSum_10 : decode cX0_bestSum 10 = .ok (.iload_n 1, 1) := by decide +kernel
theorem dX0_bestSum_11 : decode cX0_bestSum 11 = .ok (.invokevirtual 78, 3) := by decide +kernel
theorem dX0_bestSum_14 : decode cX0_bestSum 14 = .ok (.istore_n 2, 1) := by decide +kernel
theorem dX0_bestSum_15 : decode cX0_bestSum 15 = .ok (.aload_n 0, 1) := by decide +kernel
theorem dX0_bestSum_16 : decode cX0_bestSum 16 = .ok (.getfield 28, 3) := by decide +kernel
theorem dX0_bestSum_19 : decode cX0_bestSum 19 = .ok (.iload_n 2, 1) := by decide +kernel
theorem dX0_bestSum_20 : decode cX0_bestSum 20 = .ok (.iaload, 1) := by decide +kernel
theorem dX0_bestSum_21 : decode cX0_bestSum 21 = .ok (.iconst (-1), 1) := by decide +kernel
theorem dX0_bestSum_22 : decode cX0_bestSum 22 = .ok (.if_icmp .eq 10, 3) := by decide +kernel
theorem dX0_bestSum_25 : decode cX0_bestSum 25 = .ok (.aload_n 0, 1) := by decide +kernel
theorem dX0_bestSum_26 : decode cX0_bestSum 26 = .ok (.getfield 28, 3) := by decide +kernel
theorem dX0_bestSum_29 : decode cX0_bestSum 29 = .ok (.iload_n 2, 1) := by decide +kernel
theorem dX0_bestSum_30 : decode cX0_bestSum 30 = .ok (.iaload, 1) := by decide +kernel
theorem dX0_bestSum_31 : decode cX0_bestSum 31 = .ok (.ireturn, 1) := by decide +kernel
theorem dX0_bestSum_32 : decode cX0_bestSum 32 = .ok (.iconst 0, 1) := by decide +kernel
theorem dX0_bestSum_33 : decode cX0_bestSum 33 = .ok (.istore_n 3, 1) := by decide +kernel
theorem dX0_bestSum_34 : decode cX0_bestSum 34 = .ok (.iconst 0, 1) := by decide +kernel
theorem dX0_bestSum_35 : decode cX0_bestSum 35 = .ok (.istore 4, 2) := by decide +kernel
theorem dX0_bestSum_37 : decode cX0_bestSum 37 = .ok (.iload 4, 2) := by decide +kernel
theorem dX0_bestSum_39 : decode cX0_bestSum 39 = .ok (.iconst 3, 1) := by decide +kernel
theorem dX0_bestSum_40 : decode cX0_bestSum 40 = .ok (.if_icmp .ge 41, 3) := by decide +kernel
theorem dX0_bestSum_43 : decode cX0_bestSum 43 = .ok (.aload_n 0, 1) := by decide +kernel
theorem dX0_bestSum_44 : decode cX0_bestSum 44 = .ok (.getfield 9, 3) := by decide +kernel
theorem dX0_bestSum_47 : decode cX0_bestSum 47 = .ok (.iload 4, 2) := by decide +kernel
theorem dX0_bestSum_49 : decode cX0_bestSum 49 = .ok (.iaload, 1) := by decide +kernel
theorem dX0_bestSum_50 : decode cX0_bestSum 50 = .ok (.ifCond .le 25, 3) := by decide +kernel
theorem dX0_bestSum_53 : decode cX0_bestSum 53 = .ok (.aload_n 0, 1) := by decide +kernel
theorem dX0_bestSum_54 : decode cX0_bestSum 54 = .ok (.iload 4, 2) := by decide +kernel
theorem dX0_bestSum_56 : decode cX0_bestSum 56 = .ok (.invokevirtual 82, 3) := by decide +kernel
theorem dX0_bestSum_59 : decode cX0_bestSum 59 = .ok (.iload_n 3, 1) := by decide +kernel
theorem dX0_bestSum_60 : decode cX0_bestSum 60 = .ok (.aload_n 0, 1) := by decide +kernel
theorem dX0_bestSum_61 : decode cX0_bestSum 61 = .ok (.iload 4, 2) := by decide +kernel
theorem dX0_bestSum_63 : decode cX0_bestSum 63 = .ok (.iload_n 1, 1) := by decide +kernel
theorem dX0_bestSum_64 : decode cX0_bestSum 64 = .ok (.invokevirtual 86, 3) := by decide +kernel
theorem dX0_bestSum_67 : decode cX0_bestSum 67 = .ok (.iadd, 1) := by decide +kernel
theorem dX0_bestSum_68 : decode cX0_bestSum 68 = .ok (.istore_n 3, 1) := by decide +kernel
theorem dX0_bestSum_69 : decode cX0_bestSum 69 = .ok (.aload_n 0, 1) := by decide +kernel
theorem dX0_bestSum_70 : decode cX0_bestSum 70 = .ok (.iload 4, 2) := by decide +kernel
theorem dX0_bestSum_72 : decode cX0_bestSum 72 = .ok (.invokevirtual 89, 3) := by decide +kernel
theorem dX0_bestSum_75 : decode cX0_bestSum 75 = .ok (.iinc 4 1, 3) := by decide +kernel
theorem dX0_bestSum_78 : decode cX0_bestSum 78 = .ok (.goto (-41), 3) := by decide +kernel
theorem dX0_bestSum_81 : decode cX0_bestSum 81 = .ok (.aload_n 0, 1) := by decide +kernel
theorem dX0_bestSum_82 : decode cX0_bestSum 82 = .ok (.getfield 28, 3) := by decide +kernel
theorem dX0_bestSum_85 : decode cX0_bestSum 85 = .ok (.iload_n 2, 1) := by decide +kernel
theorem dX0_bestSum_86 : decode cX0_bestSum 86 = .ok (.iload_n 3, 1) := by decide +kernel
theorem dX0_bestSum_87 : decode cX0_bestSum 87 = .ok (.iastore, 1) := by decide +kernel
theorem dX0_bestSum_88 : decode cX0_bestSum 88 = .ok (.iload_n 3, 1) := by decide +kernel
theorem dX0_bestSum_89 : decode cX0_bestSum 89 = .ok (.ireturn, 1) := by decide +kernel
theorem dX0_bestOn_0 : decode cX0_bestOn 0 = .ok (.aload_n 0, 1) := by decide +kernel
theorem dX0_bestOn_1 : decode cX0_bestOn 1 = .ok (.iload_n 1, 1) := by decide +kernel
theorem dX0_bestOn_2 : decode cX0_bestOn 2 = .ok (.iload_n 2, 1) := by decide +kernel
theorem dX0_bestOn_3 : decode cX0_bestOn 3 = .ok (.invokevirtual 92, 3) := by decide +kernel
theorem dX0_bestOn_6 : decode cX0_bestOn 6 = .ok (.istore_n 3, 1) := by decide +kernel
theorem dX0_bestOn_7 : decode cX0_bestOn 7 = .ok (.aload_n 0, 1) := by decide +kernel
theorem dX0_bestOn_8 : decode cX0_bestOn 8 = .ok (.iload_n 2, 1) := by decide +kernel
theorem dX0_bestOn_9 : decode cX0_bestOn 9 = .ok (.invokevirtual 95, 3) := by decide +kernel
theorem dX0_bestOn_12 : decode cX0_bestOn 12 = .ok (.istore 4, 2) := by decide +kernel
theorem dX0_bestOn_14 : decode cX0_bestOn 14 = .ok (.iconst 0, 1) := by decide +kernel
theorem dX0_bestOn_15 : decode cX0_bestOn 15 = .ok (.istore 5, 2) := by decide +kernel
theorem dX0_bestOn_17 : decode cX0_bestOn 17 = .ok (.iload 5, 2) := by decide +kernel
theorem dX0_bestOn_19 : decode cX0_bestOn 19 = .ok (.iconst 3, 1) := by decide +kernel
theorem dX0_bestOn_20 : decode cX0_bestOn 20 = .ok (.if_icmp .ge 32, 3) := by decide +kernel
theorem dX0_bestOn_23 : decode cX0_bestOn 23 = .ok (.iload_n 3, 1) := by decide +kernel
theorem dX0_bestOn_24 : decode cX0_bestOn 24 = .ok (.iload 5, 2) := by decide +kernel
theorem dX0_bestOn_26 : decode cX0_bestOn 26 = .ok (.invokestatic 98, 3) := by decide +kernel
theorem dX0_bestOn_29 : decode cX0_bestOn 29 = .ok (.ifCond .eq 17, 3) := by decide +kernel
theorem dX0_bestOn_32 : decode cX0_bestOn 32 = .ok (.iload 4, 2) := by decide +kernel
theorem dX0_bestOn_34 : decode cX0_bestOn 34 = .ok (.aload_n 0, 1) := by decide +kernel
theorem dX0_bestOn_35 : decode cX0_bestOn 35 = .ok (.iload 5, 2) := by decide +kernel
theorem dX0_bestOn_37 : decode cX0_bestOn 37 = .ok (.iload_n 2, 1) := by decide +kernel
theorem dX0_bestOn_38 : decode cX0_bestOn 38 = .ok (.invokevirtual 102, 3) := by decide +kernel
theorem dX0_bestOn_41 : decode cX0_bestOn 41 = .ok (.invokestatic 105, 3) := by decide +kernel
theorem dX0_bestOn_44 : decode cX0_bestOn 44 = .ok (.istore 4, 2) := by decide +kernel
theorem dX0_bestOn_46 : decode cX0_bestOn 46 = .ok (.iinc 5 1, 3) := by decide +kernel
theorem dX0_bestOn_49 : decode cX0_bestOn 49 = .ok (.goto (-32), 3) := by decide +kernel
theorem dX0_bestOn_52 : decode cX0_bestOn 52 = .ok (.iload 4, 2) := by decide +kernel
theorem dX0_bestOn_54 : decode cX0_bestOn 54 = .ok (.ireturn, 1) := by decide +kernel
theorem dX0_bestWork_0 : decode cX0_bestWork 0 = .ok (.aload_n 0, 1) := by decide +kernel
theorem dX0_bestWork_1 : decode cX0_bestWork 1 = .ok (.iload_n 1, 1) := by decide +kernel
theorem dX0_bestWork_2 : decode cX0_bestWork 2 = .ok (.iload_n 2, 1) := by decide +kernel
theorem dX0_bestWork_3 : decode cX0_bestWork 3 = .ok (.invokevirtual 92, 3) := by decide +kernel
theorem dX0_bestWork_6 : decode cX0_bestWork 6 = .ok (.istore_n 3, 1) := by decide +kernel
theorem dX0_bestWork_7 : decode cX0_bestWork 7 = .ok (.aload_n 0, 1) := by decide +kernel
theorem dX0_bestWork_8 : decode cX0_bestWork 8 = .ok (.iload_n 1, 1) := by decide +kernel
theorem dX0_bestWork_9 : decode cX0_bestWork 9 = .ok (.iload_n 2, 1) := by decide +kernel
theorem dX0_bestWork_10 : decode cX0_bestWork 10 = .ok (.invokevirtual 86, 3) := by decide +kernel
theorem dX0_bestWork_13 : decode cX0_bestWork 13 = .ok (.istore 4, 2) := by decide +kernel
theorem dX0_bestWork_15 : decode cX0_bestWork 15 = .ok (.iload_n 3, 1) := by decide +kernel
theorem dX0_bestWork_16 : decode cX0_bestWork 16 = .ok (.ifCond .eq 13, 3) := by decide +kernel
theorem dX0_bestWork_19 : decode cX0_bestWork 19 = .ok (.aload_n 0, 1) := by decide +kernel
theorem dX0_bestWork_20 : decode cX0_bestWork 20 = .ok (.iload_n 2, 1) := by decide +kernel
theorem dX0_bestWork_21 : decode cX0_bestWork 21 = .ok (.invokevirtual 95, 3) := by decide +kernel
theorem dX0_bestWork_24 : decode cX0_bestWork 24 = .ok (.iload 4, 2) := by decide +kernel
theorem dX0_bestWork_26 : decode cX0_bestWork 26 = .ok (.if_icmp .ne 5, 3) := by decide +kernel
theorem dX0_bestWork_29 : decode cX0_bestWork 29 = .ok (.iconst 3, 1) := by decide +kernel
theorem dX0_bestWork_30 : decode cX0_bestWork 30 = .ok (.ireturn, 1) := by decide +kernel
theorem dX0_bestWork_31 : decode cX0_bestWork 31 = .ok (.iconst 0, 1) := by decide +kernel
theorem dX0_bestWork_32 : decode cX0_bestWork 32 = .ok (.istore 5, 2) := by decide +kernel
theorem dX0_bestWork_34 : decode cX0_bestWork 34 = .ok (.iload 5, 2) := by decide +kernel
theorem dX0_bestWork_36 : decode cX0_bestWork 36 = .ok (.iconst 3, 1) := by decide +kernel
theorem dX0_bestWork_37 : decode cX0_bestWork 37 = .ok (.if_icmp .ge 33, 3) := by decide +kernel
theorem dX0_bestWork_40 : decode cX0_bestWork 40 = .ok (.iload_n 3, 1) := by decide +kernel
theorem dX0_bestWork_41 : decode cX0_bestWork 41 = .ok (.iload 5, 2) := by decide +kernel
theorem dX0_bestWork_43 : decode cX0_bestWork 43 = .ok (.invokestatic 98, 3) := by decide +kernel
theorem dX0_bestWork_46 : decode cX0_bestWork 46 = .ok (.ifCond .eq 18, 3) := by decide +kernel
theorem dX0_bestWork_49 : decode cX0_bestWork 49 = .ok (.aload_n 0, 1) := by decide +kernel
theorem dX0_bestWork_50 : decode cX0_bestWork 50 = .ok (.iload 5, 2) := by decide +kernel
theorem dX0_bestWork_52 : decode cX0_bestWork 52 = .ok (.iload_n 2, 1) := by decide +kernel
theorem dX0_bestWork_53 : decode cX0_bestWork 53 = .ok (.invokevirtual 102, 3) := by decide +kernel
theorem dX0_bestWork_56 : decode cX0_bestWork 56 = .ok (.iload 4, 2) := by decide +kernel
theorem dX0_bestWork_58 : decode cX0_bestWork 58 = .ok (.if_icmp .ne 6, 3) := by decide +kernel
theorem dX0_bestWork_61 : decode cX0_bestWork 61 = .ok (.iload 5, 2) := by decide +kernel
theorem dX0_bestWork_63 : decode cX0_bestWork 63 = .ok (.ireturn, 1) := by decide +kernel
theorem dX0_bestWork_64 : decode cX0_bestWork 64 = .ok (.iinc 5 1, 3) := by decide +kernel
theorem dX0_bestWork_67 : decode cX0_bestWork 67 = .ok (.goto (-33), 3) := by decide +kernel
theorem dX0_bestWork_70 : decode cX0_bestWork 70 = .ok (.iconst 3, 1) := by decide +kernel
theorem dX0_bestWork_71 : decode cX0_bestWork 71 = .ok (.ireturn, 1) := by decide +kernel
theorem dX0_worth_0 : decode cX0_worth 0 = .ok (.aload_n 0, 1) := by decide +kernel
theorem dX0_worth_1 : decode cX0_worth 1 = .ok (.iload_n 1, 1) := by decide +kernel
theorem dX0_worth_2 : decode cX0_worth 2 = .ok (.iload_n 2, 1) := by decide +kernel
theorem dX0_worth_3 : decode cX0_worth 3 = .ok (.invokevirtual 110, 3) := by decide +kernel
theorem dX0_worth_6 : decode cX0_worth 6 = .ok (.aload_n 0, 1) := by decide +kernel
theorem dX0_worth_7 : decode cX0_worth 7 = .ok (.iload_n 1, 1) := by decide +kernel
theorem dX0_worth_8 : decode cX0_worth 8 = .ok (.iload_n 2, 1) := by decide +kernel
theorem dX0_worth_9 : decode cX0_worth 9 = .ok (.invokestatic 113, 3) := by decide +kernel
theorem dX0_worth_12 : decode cX0_worth 12 = .ok (.invokevirtual 95, 3) := by decide +kernel
theorem dX0_worth_15 : decode cX0_worth 15 = .ok (.iadd, 1) := by decide +kernel
theorem dX0_worth_16 : decode cX0_worth 16 = .ok (.ireturn, 1) := by decide +kernel
theorem dX0_paidOn_0 : decode cX0_paidOn 0 = .ok (.aload_n 0, 1) := by decide +kernel
theorem dX0_paidOn_1 : decode cX0_paidOn 1 = .ok (.getfield 31, 3) := by decide +kernel
theorem dX0_paidOn_4 : decode cX0_paidOn 4 = .ok (.iload_n 1, 1) := by decide +kernel
theorem dX0_paidOn_5 : decode cX0_paidOn 5 = .ok (.iload_n 2, 1) := by decide +kernel
theorem dX0_paidOn_6 : decode cX0_paidOn 6 = .ok (.invokevirtual 116, 3) := by decide +kernel
theorem dX0_paidOn_9 : decode cX0_paidOn 9 = .ok (.istore_n 3, 1) := by decide +kernel
theorem dX0_paidOn_10 : decode cX0_paidOn 10 = .ok (.iload_n 3, 1) := by decide +kernel
theorem dX0_paidOn_11 : decode cX0_paidOn 11 = .ok (.ifCond .ne 7, 3) := by decide +kernel
theorem dX0_paidOn_14 : decode cX0_paidOn 14 = .ok (.iconst 0, 1) := by decide +kernel
theorem dX0_paidOn_15 : decode cX0_paidOn 15 = .ok (.goto 9, 3) := by decide +kernel
theorem dX0_paidOn_18 : decode cX0_paidOn 18 = .ok (.iload_n 3, 1) := by decide +kernel
theorem dX0_paidOn_19 : decode cX0_paidOn 19 = .ok (.aload_n 0, 1) := by decide +kernel
theorem dX0_paidOn_20 : decode cX0_paidOn 20 = .ok (.invokevirtual 119, 3) := by decide +kernel
theorem dX0_paidOn_23 : decode cX0_paidOn 23 = .ok (.imul, 1) := by decide +kernel
theorem dX0_paidOn_24 : decode cX0_paidOn 24 = .ok (.ireturn, 1) := by decide +kernel
theorem dX0_forget_0 : decode cX0_forget 0 = .ok (.aload_n 0, 1) := by decide +kernel
theorem dX0_forget_1 : decode cX0_forget 1 = .ok (.getfield 35, 3) := by decide +kernel
theorem dX0_forget_4 : decode cX0_forget 4 = .ok (.iconst (-1), 1) := by decide +kernel
theorem dX0_forget_5 : decode cX0_forget 5 = .ok (.invokestatic 58, 3) := by decide +kernel
theorem dX0_forget_8 : decode cX0_forget 8 = .ok (.return_, 1) := by decide +kernel
theorem dX0_ownSum_0 : decode cX0_ownSum 0 = .ok (.aload_n 0, 1) := by decide +kernel
theorem dX0_ownSum_1 : decode cX0_ownSum 1 = .ok (.getfield 47, 3) := by decide +kernel
theorem dX0_ownSum_4 : decode cX0_ownSum 4 = .ok (.ifCond .gt 21, 3) := by decide +kernel
theorem dX0_ownSum_7 : decode cX0_ownSum 7 = .ok (.iload_n 2, 1) := by decide +kernel
theorem dX0_ownSum_8 : decode cX0_ownSum 8 = .ok (.ifCond .eq 15, 3) := by decide +kernel
theorem dX0_ownSum_11 : decode cX0_ownSum 11 = .ok (.iload_n 2, 1) := by decide +kernel
theorem dX0_ownSum_12 : decode cX0_ownSum 12 = .ok (.iload_n 3, 1) := by decide +kernel
theorem dX0_ownSum_13 : decode cX0_ownSum 13 = .ok (.invokestatic 123, 3) := by decide +kernel
theorem dX0_ownSum_16 : decode cX0_ownSum 16 = .ok (.ifCond .eq 7, 3) := by decide +kernel
theorem dX0_ownSum_19 : decode cX0_ownSum 19 = .ok (.iconst 1, 1) := by decide +kernel
theorem dX0_ownSum_20 : decode cX0_ownSum 20 = .ok (.goto 4, 3) := by decide +kernel
theorem dX0_ownSum_23 : decode cX0_ownSum 23 = .ok (.iconst 0, 1) := by decide +kernel
theorem dX0_ownSum_24 : decode cX0_ownSum 24 = .ok (.ireturn, 1) := by decide +kernel
theorem dX0_ownSum_25 : decode cX0_ownSum 25 = .ok (.aload_n 0, 1) := by decide +kernel
theorem dX0_ownSum_26 : decode cX0_ownSum 26 = .ok (.iload_n 3, 1) := by decide +kernel
theorem dX0_ownSum_27 : decode cX0_ownSum 27 = .ok (.invokevirtual 78, 3) := by decide +kernel
theorem dX0_ownSum_30 : decode cX0_ownSum 30 = .ok (.istore 4, 2) := by decide +kernel
theorem dX0_ownSum_32 : decode cX0_ownSum 32 = .ok (.aload_n 0, 1) := by decide +kernel
theorem dX0_ownSum_33 : decode cX0_ownSum 33 = .ok (.getfield 35, 3) := by decide +kernel
theorem dX0_ownSum_36 : decode cX0_ownSum 36 = .ok (.iload 4, 2) := by decide +kernel
theorem dX0_ownSum_38 : decode cX0_ownSum 38 = .ok (.iaload, 1) := by decide +kernel
theorem dX0_ownSum_39 : decode cX0_ownSum 39 = .ok (.iconst (-1), 1) := by decide +kernel
theorem dX0_ownSum_40 : decode cX0_ownSum 40 = .ok (.if_icmp .eq 11, 3) := by decide +kernel
theorem dX0_ownSum_43 : decode cX0_ownSum 43 = .ok (.aload_n 0, 1) := by decide +kernel
theorem dX0_ownSum_44 : decode cX0_ownSum 44 = .ok (.getfield 35, 3) := by decide +kernel
theorem dX0_ownSum_47 : decode cX0_ownSum 47 = .ok (.iload 4, 2) := by decide +kernel
theorem dX0_ownSum_49 : decode cX0_ownSum 49 = .ok (.iaload, 1) := by decide +kernel
theorem dX0_ownSum_50 : decode cX0_ownSum 50 = .ok (.ireturn, 1) := by decide +kernel
theorem dX0_ownSum_51 : decode cX0_ownSum 51 = .ok (.iconst 0, 1) := by decide +kernel
theorem dX0_ownSum_52 : decode cX0_ownSum 52 = .ok (.istore 5, 2) := by decide +kernel
theorem dX0_ownSum_54 : decode cX0_ownSum 54 = .ok (.iconst 0, 1) := by decide +kernel
theorem dX0_ownSum_55 : decode cX0_ownSum 55 = .ok (.istore 6, 2) := by decide +kernel
theorem dX0_ownSum_57 : decode cX0_ownSum 57 = .ok (.iload 6, 2) := by decide +kernel
theorem dX0_ownSum_59 : decode cX0_ownSum 59 = .ok (.iconst 3, 1) := by decide +kernel
theorem dX0_ownSum_60 : decode cX0_ownSum 60 = .ok (.if_icmp .ge 78, 3) := by decide +kernel
theorem dX0_ownSum_63 : decode cX0_ownSum 63 = .ok (.aload_n 0, 1) := by decide +kernel
theorem dX0_ownSum_64 : decode cX0_ownSum 64 = .ok (.getfield 9, 3) := by decide +kernel
theorem dX0_ownSum_67 : decode cX0_ownSum 67 = .ok (.iload 6, 2) := by decide +kernel
theorem dX0_ownSum_69 : decode cX0_ownSum 69 = .ok (.iaload, 1) := by decide +kernel
theorem dX0_ownSum_70 : decode cX0_ownSum 70 = .ok (.ifCond .le 62, 3) := by decide +kernel
theorem dX0_ownSum_73 : decode cX0_ownSum 73 = .ok (.aload_n 0, 1) := by decide +kernel
theorem dX0_ownSum_74 : decode cX0_ownSum 74 = .ok (.iload 6, 2) := by decide +kernel
theorem dX0_ownSum_76 : decode cX0_ownSum 76 = .ok (.invokevirtual 82, 3) := by decide +kernel
theorem dX0_ownSum_79 : decode cX0_ownSum 79 = .ok (.aload_n 1, 1) := by decide +kernel
theorem dX0_ownSum_80 : decode cX0_ownSum 80 = .ok (.aload_n 0, 1) := by decide +kernel
theorem dX0_ownSum_81 : decode cX0_ownSum 81 = .ok (.iload 6, 2) := by decide +kernel
theorem dX0_ownSum_83 : decode cX0_ownSum 83 = .ok (.iload_n 3, 1) := by decide +kernel
theorem dX0_ownSum_84 : decode cX0_ownSum 84 = .ok (.invokevirtual 126, 3) := by decide +kernel
theorem dX0_ownSum_87 : decode cX0_ownSum 87 = .ok (.istore 7, 2) := by decide +kernel
theorem dX0_ownSum_89 : decode cX0_ownSum 89 = .ok (.iload_n 2, 1) := by decide +kernel
theorem dX0_ownSum_90 : decode cX0_ownSum 90 = .ok (.ifCond .ne 13, 3) := by decide +kernel
theorem dX0_ownSum_93 : decode cX0_ownSum 93 = .ok (.aload_n 0, 1) := by decide +kernel
theorem dX0_ownSum_94 : decode cX0_ownSum 94 = .ok (.iload 7, 2) := by decide +kernel
theorem dX0_ownSum_96 : decode cX0_ownSum 96 = .ok (.iload_n 3, 1) := by decide +kernel
theorem dX0_ownSum_97 : decode cX0_ownSum 97 = .ok (.invokevirtual 110, 3) := by decide +kernel
theorem dX0_ownSum_100 : decode cX0_ownSum 100 = .ok (.goto 4, 3) := by decide +kernel
theorem dX0_ownSum_103 : decode cX0_ownSum 103 = .ok (.iconst 0, 1) := by decide +kernel
theorem dX0_ownSum_104 : decode cX0_ownSum 104 = .ok (.istore 8, 2) := by decide +kernel
theorem dX0_ownSum_106 : decode cX0_ownSum 106 = .ok (.iload 5, 2) := by decide +kernel
theorem dX0_ownSum_108 : decode cX0_ownSum 108 = .ok (.iload 8, 2) := by decide +kernel
theorem dX0_ownSum_110 : decode cX0_ownSum 110 = .ok (.aload_n 0, 1) := by decide +kernel
theorem dX0_ownSum_111 : decode cX0_ownSum 111 = .ok (.aload_n 1, 1) := by decide +kernel
theorem dX0_ownSum_112 : decode cX0_ownSum 112 = .ok (.iload_n 2, 1) := by decide +kernel
theorem dX0_ownSum_113 : decode cX0_ownSum 113 = .ok (.iload 7, 2) := by decide +kernel
theorem dX0_ownSum_115 : decode cX0_ownSum 115 = .ok (.iload_n 3, 1) := by decide +kernel
theorem dX0_ownSum_116 : decode cX0_ownSum 116 = .ok (.invokestatic 113, 3) := by decide +kernel
theorem dX0_ownSum_119 : decode cX0_ownSum 119 = .ok (.invokevirtual 132, 3) := by decide +kernel
theorem dX0_ownSum_122 : decode cX0_ownSum 122 = .ok (.iadd, 1) := by decide +kernel
theorem dX0_ownSum_123 : decode cX0_ownSum 123 = .ok (.iadd, 1) := by decide +kernel
theorem dX0_ownSum_124 : decode cX0_ownSum 124 = .ok (.istore 5, 2) := by decide +kernel
theorem dX0_ownSum_126 : decode cX0_ownSum 126 = .ok (.aload_n 0, 1) := by decide +kernel
theorem dX0_ownSum_127 : decode cX0_ownSum 127 = .ok (.iload 6, 2) := by decide +kernel
theorem dX0_ownSum_129 : decode cX0_ownSum 129 = .ok (.invokevirtual 89, 3) := by decide +kernel
theorem dX0_ownSum_132 : decode cX0_ownSum 132 = .ok (.iinc 6 1, 3) := by decide +kernel
theorem dX0_ownSum_135 : decode cX0_ownSum 135 = .ok (.goto (-78), 3) := by decide +kernel
theorem dX0_ownSum_138 : decode cX0_ownSum 138 = .ok (.aload_n 0, 1) := by decide +kernel
theorem dX0_ownSum_139 : decode cX0_ownSum 139 = .ok (.getfield 35, 3) := by decide +kernel
theorem dX0_ownSum_142 : decode cX0_ownSum 142 = .ok (.iload 4, 2) := by decide +kernel
theorem dX0_ownSum_144 : decode cX0_ownSum 144 = .ok (.iload 5, 2) := by decide +kernel
theorem dX0_ownSum_146 : decode cX0_ownSum 146 = .ok (.iastore, 1) := by decide +kernel
theorem dX0_ownSum_147 : decode cX0_ownSum 147 = .ok (.iload 5, 2) := by decide +kernel
theorem dX0_ownSum_149 : decode cX0_ownSum 149 = .ok (.ireturn, 1) := by decide +kernel
theorem dX0_reached_0 : decode cX0_reached 0 = .ok (.iconst 0, 1) := by decide +kernel
theorem dX0_reached_1 : decode cX0_reached 1 = .ok (.istore_n 2, 1) := by decide +kernel
theorem dX0_reached_2 : decode cX0_reached 2 = .ok (.iload_n 2, 1) := by decide +kernel
theorem dX0_reached_3 : decode cX0_reached 3 = .ok (.iconst 3, 1) := by decide +kernel
theorem dX0_reached_4 : decode cX0_reached 4 = .ok (.if_icmp .ge 31, 3) := by decide +kernel
theorem dX0_reached_7 : decode cX0_reached 7 = .ok (.iload_n 0, 1) := by decide +kernel
theorem dX0_reached_8 : decode cX0_reached 8 = .ok (.iload_n 2, 1) := by decide +kernel
theorem dX0_reached_9 : decode cX0_reached 9 = .ok (.invokestatic 136, 3) := by decide +kernel
theorem dX0_reached_12 : decode cX0_reached 12 = .ok (.ifCond .eq 17, 3) := by decide +kernel
theorem dX0_reached_15 : decode cX0_reached 15 = .ok (.getstatic 75, 3) := by decide +kernel
theorem dX0_reached_18 : decode cX0_reached 18 = .ok (.iload_n 1, 1) := by decide +kernel
theorem dX0_reached_19 : decode cX0_reached 19 = .ok (.iaload, 1) := by decide +kernel
theorem dX0_reached_20 : decode cX0_reached 20 = .ok (.iload_n 2, 1) := by decide +kernel
theorem dX0_reached_21 : decode cX0_reached 21 = .ok (.invokestatic 98, 3) := by decide +kernel
theorem dX0_reached_24 : decode cX0_reached 24 = .ok (.ifCond .eq 5, 3) := by decide +kernel
theorem dX0_reached_27 : decode cX0_reached 27 = .ok (.iconst 0, 1) := by decide +kernel
theorem dX0_reached_28 : decode cX0_reached 28 = .ok (.ireturn, 1) := by decide +kernel
theorem dX0_reached_29 : decode cX0_reached 29 = .ok (.iinc 2 1, 3) := by decide +kernel
theorem dX0_reached_32 : decode cX0_reached 32 = .ok (.goto (-30), 3) := by decide +kernel
theorem dX0_reached_35 : decode cX0_reached 35 = .ok (.iconst 1, 1) := by decide +kernel
theorem dX0_reached_36 : decode cX0_reached 36 = .ok (.ireturn, 1) := by decide +kernel
theorem dX0_mostPaid_0 : decode cX0_mostPaid 0 = .ok (.aload_n 0, 1) := by decide +kernel
theorem dX0_mostPaid_1 : decode cX0_mostPaid 1 = .ok (.getfield 47, 3) := by decide +kernel
theorem dX0_mostPaid_4 : decode cX0_mostPaid 4 = .ok (.ifCond .gt 5, 3) := by decide +kernel
theorem dX0_mostPaid_7 : decode cX0_mostPaid 7 = .ok (.iconst 0, 1) := by decide +kernel
theorem dX0_mostPaid_8 : decode cX0_mostPaid 8 = .ok (.ireturn, 1) := by decide +kernel
theorem dX0_mostPaid_9 : decode cX0_mostPaid 9 = .ok (.aload_n 0, 1) := by decide +kernel
theorem dX0_mostPaid_10 : decode cX0_mostPaid 10 = .ok (.iload_n 1, 1) := by decide +kernel
theorem dX0_mostPaid_11 : decode cX0_mostPaid 11 = .ok (.invokevirtual 78, 3) := by decide +kernel
theorem dX0_mostPaid_14 : decode cX0_mostPaid 14 = .ok (.istore_n 2, 1) := by decide +kernel
theorem dX0_mostPaid_15 : decode cX0_mostPaid 15 = .ok (.aload_n 0, 1) := by decide +kernel
theorem dX0_mostPaid_16 : decode cX0_mostPaid 16 = .ok (.getfield 35, 3) := by decide +kernel
theorem dX0_mostPaid_19 : decode cX0_mostPaid 19 = .ok (.iload_n 2, 1) := by decide +kernel
theorem dX0_mostPaid_20 : decode cX0_mostPaid 20 = .ok (.iaload, 1) := by decide +kernel
theorem dX0_mostPaid_21 : decode cX0_mostPaid 21 = .ok (.iconst (-1), 1) := by decide +kernel
theorem dX0_mostPaid_22 : decode cX0_mostPaid 22 = .ok (.if_icmp .eq 10, 3) := by decide +kernel
theorem dX0_mostPaid_25 : decode cX0_mostPaid 25 = .ok (.aload_n 0, 1) := by decide +kernel
theorem dX0_mostPaid_26 : decode cX0_mostPaid 26 = .ok (.getfield 35, 3) := by decide +kernel
theorem dX0_mostPaid_29 : decode cX0_mostPaid 29 = .ok (.iload_n 2, 1) := by decide +kernel
theorem dX0_mostPaid_30 : decode cX0_mostPaid 30 = .ok (.iaload, 1) := by decide +kernel
theorem dX0_mostPaid_31 : decode cX0_mostPaid 31 = .ok (.ireturn, 1) := by decide +kernel
theorem dX0_mostPaid_32 : decode cX0_mostPaid 32 = .ok (.iconst 0, 1) := by decide +kernel
theorem dX0_mostPaid_33 : decode cX0_mostPaid 33 = .ok (.istore_n 3, 1) := by decide +kernel
theorem dX0_mostPaid_34 : decode cX0_mostPaid 34 = .ok (.iconst 0, 1) := by decide +kernel
theorem dX0_mostPaid_35 : decode cX0_mostPaid 35 = .ok (.istore 4, 2) := by decide +kernel
theorem dX0_mostPaid_37 : decode cX0_mostPaid 37 = .ok (.iload 4, 2) := by decide +kernel
theorem dX0_mostPaid_39 : decode cX0_mostPaid 39 = .ok (.iconst 3, 1) := by decide +kernel
theorem dX0_mostPaid_40 : decode cX0_mostPaid 40 = .ok (.if_icmp .ge 43, 3) := by decide +kernel
theorem dX0_mostPaid_43 : decode cX0_mostPaid 43 = .ok (.aload_n 0, 1) := by decide +kernel
theorem dX0_mostPaid_44 : decode cX0_mostPaid 44 = .ok (.getfield 9, 3) := by decide +kernel
theorem dX0_mostPaid_47 : decode cX0_mostPaid 47 = .ok (.iload 4, 2) := by decide +kernel
theorem dX0_mostPaid_49 : decode cX0_mostPaid 49 = .ok (.iaload, 1) := by decide +kernel
theorem dX0_mostPaid_50 : decode cX0_mostPaid 50 = .ok (.ifCond .le 27, 3) := by decide +kernel
theorem dX0_mostPaid_53 : decode cX0_mostPaid 53 = .ok (.aload_n 0, 1) := by decide +kernel
theorem dX0_mostPaid_54 : decode cX0_mostPaid 54 = .ok (.iload 4, 2) := by decide +kernel
theorem dX0_mostPaid_56 : decode cX0_mostPaid 56 = .ok (.invokevirtual 82, 3) := by decide +kernel
theorem dX0_mostPaid_59 : decode cX0_mostPaid 59 = .ok (.iload_n 3, 1) := by decide +kernel
theorem dX0_mostPaid_60 : decode cX0_mostPaid 60 = .ok (.aload_n 0, 1) := by decide +kernel
theorem dX0_mostPaid_61 : decode cX0_mostPaid 61 = .ok (.iload 4, 2) := by decide +kernel
theorem dX0_mostPaid_63 : decode cX0_mostPaid 63 = .ok (.iload_n 1, 1) := by decide +kernel
theorem dX0_mostPaid_64 : decode cX0_mostPaid 64 = .ok (.invokevirtual 139, 3) := by decide +kernel
theorem dX0_mostPaid_67 : decode cX0_mostPaid 67 = .ok (.invokestatic 105, 3) := by decide +kernel
theorem dX0_mostPaid_70 : decode cX0_mostPaid 70 = .ok (.istore_n 3, 1) := by decide +kernel
theorem dX0_mostPaid_71 : decode cX0_mostPaid 71 = .ok (.aload_n 0, 1) := by decide +kernel
theorem dX0_mostPaid_72 : decode cX0_mostPaid 72 = .ok (.iload 4, 2) := by decide +kernel
theorem dX0_mostPaid_74 : decode cX0_mostPaid 74 = .ok (.invokevirtual 89, 3) := by decide +kernel
theorem dX0_mostPaid_77 : decode cX0_mostPaid 77 = .ok (.iinc 4 1, 3) := by decide +kernel
theorem dX0_mostPaid_80 : decode cX0_mostPaid 80 = .ok (.goto (-43), 3) := by decide +kernel
theorem dX0_mostPaid_83 : decode cX0_mostPaid 83 = .ok (.aload_n 0, 1) := by decide +kernel
theorem dX0_mostPaid_84 : decode cX0_mostPaid 84 = .ok (.getfield 35, 3) := by decide +kernel
theorem dX0_mostPaid_87 : decode cX0_mostPaid 87 = .ok (.iload_n 2, 1) := by decide +kernel
theorem dX0_mostPaid_88 : decode cX0_mostPaid 88 = .ok (.iload_n 3, 1) := by decide +kernel
theorem dX0_mostPaid_89 : decode cX0_mostPaid 89 = .ok (.iastore, 1) := by decide +kernel
theorem dX0_mostPaid_90 : decode cX0_mostPaid 90 = .ok (.iload_n 3, 1) := by decide +kernel
theorem dX0_mostPaid_91 : decode cX0_mostPaid 91 = .ok (.ireturn, 1) := by decide +kernel
theorem dX0_mostOn_0 : decode cX0_mostOn 0 = .ok (.aload_n 0, 1) := by decide +kernel
theorem dX0_mostOn_1 : decode cX0_mostOn 1 = .ok (.iload_n 1, 1) := by decide +kernel
theorem dX0_mostOn_2 : decode cX0_mostOn 2 = .ok (.iload_n 2, 1) := by decide +kernel
theorem dX0_mostOn_3 : decode cX0_mostOn 3 = .ok (.invokevirtual 92, 3) := by decide +kernel
theorem dX0_mostOn_6 : decode cX0_mostOn 6 = .ok (.istore_n 3, 1) := by decide +kernel
theorem dX0_mostOn_7 : decode cX0_mostOn 7 = .ok (.aload_n 0, 1) := by decide +kernel
theorem dX0_mostOn_8 : decode cX0_mostOn 8 = .ok (.iload_n 2, 1) := by decide +kernel
theorem dX0_mostOn_9 : decode cX0_mostOn 9 = .ok (.invokevirtual 142, 3) := by decide +kernel
theorem dX0_mostOn_12 : decode cX0_mostOn 12 = .ok (.istore 4, 2) := by decide +kernel
theorem dX0_mostOn_14 : decode cX0_mostOn 14 = .ok (.iconst 0, 1) := by decide +kernel
theorem dX0_mostOn_15 : decode cX0_mostOn 15 = .ok (.istore 5, 2) := by decide +kernel
theorem dX0_mostOn_17 : decode cX0_mostOn 17 = .ok (.iload 5, 2) := by decide +kernel
theorem dX0_mostOn_19 : decode cX0_mostOn 19 = .ok (.iconst 3, 1) := by decide +kernel
theorem dX0_mostOn_20 : decode cX0_mostOn 20 = .ok (.if_icmp .ge 46, 3) := by decide +kernel
theorem dX0_mostOn_23 : decode cX0_mostOn 23 = .ok (.iload_n 3, 1) := by decide +kernel
theorem dX0_mostOn_24 : decode cX0_mostOn 24 = .ok (.iload 5, 2) := by decide +kernel
theorem dX0_mostOn_26 : decode cX0_mostOn 26 = .ok (.invokestatic 98, 3) := by decide +kernel
theorem dX0_mostOn_29 : decode cX0_mostOn 29 = .ok (.ifCond .eq 31, 3) := by decide +kernel
theorem dX0_mostOn_32 : decode cX0_mostOn 32 = .ok (.iload 4, 2) := by decide +kernel
theorem dX0_mostOn_34 : decode cX0_mostOn 34 = .ok (.aload_n 0, 1) := by decide +kernel
theorem dX0_mostOn_35 : decode cX0_mostOn 35 = .ok (.getfield 31, 3) := by decide +kernel
theorem dX0_mostOn_38 : decode cX0_mostOn 38 = .ok (.iload 5, 2) := by decide +kernel
theorem dX0_mostOn_40 : decode cX0_mostOn 40 = .ok (.iload_n 2, 1) := by decide +kernel
theorem dX0_mostOn_41 : decode cX0_mostOn 41 = .ok (.invokevirtual 116, 3) := by decide +kernel
theorem dX0_mostOn_44 : decode cX0_mostOn 44 = .ok (.aload_n 0, 1) := by decide +kernel
theorem dX0_mostOn_45 : decode cX0_mostOn 45 = .ok (.iload 5, 2) := by decide +kernel
theorem dX0_mostOn_47 : decode cX0_mostOn 47 = .ok (.iload_n 2, 1) := by decide +kernel
theorem dX0_mostOn_48 : decode cX0_mostOn 48 = .ok (.invokestatic 113, 3) := by decide +kernel
theorem dX0_mostOn_51 : decode cX0_mostOn 51 = .ok (.invokevirtual 142, 3) := by decide +kernel
theorem dX0_mostOn_54 : decode cX0_mostOn 54 = .ok (.iadd, 1) := by decide +kernel
theorem dX0_mostOn_55 : decode cX0_mostOn 55 = .ok (.invokestatic 105, 3) := by decide +kernel
theorem dX0_mostOn_58 : decode cX0_mostOn 58 = .ok (.istore 4, 2) := by decide +kernel
theorem dX0_mostOn_60 : decode cX0_mostOn 60 = .ok (.iinc 5 1, 3) := by decide +kernel
theorem dX0_mostOn_63 : decode cX0_mostOn 63 = .ok (.goto (-46), 3) := by decide +kernel
theorem dX0_mostOn_66 : decode cX0_mostOn 66 = .ok (.iload 4, 2) := by decide +kernel
theorem dX0_mostOn_68 : decode cX0_mostOn 68 = .ok (.ireturn, 1) := by decide +kernel
theorem dX1_init_0 : decode cX1_init 0 = .ok (.aload_n 0, 1) := by decide +kernel
theorem dX1_init_1 : decode cX1_init 1 = .ok (.iload_n 1, 1) := by decide +kernel
theorem dX1_init_2 : decode cX1_init 2 = .ok (.iload_n 2, 1) := by decide +kernel
theorem dX1_init_3 : decode cX1_init 3 = .ok (.iload_n 3, 1) := by decide +kernel
theorem dX1_init_4 : decode cX1_init 4 = .ok (.invokespecial 1, 3) := by decide +kernel
theorem dX1_init_7 : decode cX1_init 7 = .ok (.return_, 1) := by decide +kernel
theorem dX1_does_0 : decode cX1_does 0 = .ok (.aload_n 1, 1) := by decide +kernel
theorem dX1_does_1 : decode cX1_does 1 = .ok (.iload_n 2, 1) := by decide +kernel
theorem dX1_does_2 : decode cX1_does 2 = .ok (.iload_n 3, 1) := by decide +kernel
theorem dX1_does_3 : decode cX1_does 3 = .ok (.invokevirtual 7, 3) := by decide +kernel
theorem dX1_does_6 : decode cX1_does 6 = .ok (.ireturn, 1) := by decide +kernel
theorem dX1_sows_0 : decode cX1_sows 0 = .ok (.bipush 51, 2) := by decide +kernel
theorem dX1_sows_2 : decode cX1_sows 2 = .ok (.aload_n 2, 1) := by decide +kernel
theorem dX1_sows_3 : decode cX1_sows 3 = .ok (.invokestatic 13, 3) := by decide +kernel
theorem dX1_sows_6 : decode cX1_sows 6 = .ok (.aload_n 0, 1) := by decide +kernel
theorem dX1_sows_7 : decode cX1_sows 7 = .ok (.iload_n 1, 1) := by decide +kernel
theorem dX1_sows_8 : decode cX1_sows 8 = .ok (.aload_n 2, 1) := by decide +kernel
theorem dX1_sows_9 : decode cX1_sows 9 = .ok (.invokespecial 19, 3) := by decide +kernel
theorem dX1_sows_12 : decode cX1_sows 12 = .ok (.aload_n 0, 1) := by decide +kernel
theorem dX1_sows_13 : decode cX1_sows 13 = .ok (.getfield 23, 3) := by decide +kernel
theorem dX1_sows_16 : decode cX1_sows 16 = .ok (.ixor, 1) := by decide +kernel
theorem dX1_sows_17 : decode cX1_sows 17 = .ok (.ireturn, 1) := by decide +kernel
theorem dX2_init_0 : decode cX2_init 0 = .ok (.aload_n 0, 1) := by decide +kernel
theorem dX2_init_1 : decode cX2_init 1 = .ok (.iload_n 1, 1) := by decide +kernel
theorem dX2_init_2 : decode cX2_init 2 = .ok (.iload_n 2, 1) := by decide +kernel
theorem dX2_init_3 : decode cX2_init 3 = .ok (.iload_n 3, 1) := by decide +kernel
theorem dX2_init_4 : decode cX2_init 4 = .ok (.invokespecial 3, 3) := by decide +kernel
theorem dX2_init_7 : decode cX2_init 7 = .ok (.return_, 1) := by decide +kernel
theorem dX2_does_0 : decode cX2_does 0 = .ok (.aload_n 1, 1) := by decide +kernel
theorem dX2_does_1 : decode cX2_does 1 = .ok (.iload_n 2, 1) := by decide +kernel
theorem dX2_does_2 : decode cX2_does 2 = .ok (.iload_n 3, 1) := by decide +kernel
theorem dX2_does_3 : decode cX2_does 3 = .ok (.invokevirtual 9, 3) := by decide +kernel
theorem dX2_does_6 : decode cX2_does 6 = .ok (.istore 4, 2) := by decide +kernel
theorem dX2_does_8 : decode cX2_does 8 = .ok (.iconst 3, 1) := by decide +kernel
theorem dX2_does_9 : decode cX2_does 9 = .ok (.istore 5, 2) := by decide +kernel
theorem dX2_does_11 : decode cX2_does 11 = .ok (.iconst 0, 1) := by decide +kernel
theorem dX2_does_12 : decode cX2_does 12 = .ok (.istore 6, 2) := by decide +kernel
theorem dX2_does_14 : decode cX2_does 14 = .ok (.iload 6, 2) := by decide +kernel
theorem dX2_does_16 : decode cX2_does 16 = .ok (.iconst 3, 1) := by decide +kernel
theorem dX2_does_17 : decode cX2_does 17 = .ok (.if_icmp .ge 44, 3) := by decide +kernel
theorem dX2_does_20 : decode cX2_does 20 = .ok (.iload 4, 2) := by decide +kernel
theorem dX2_does_22 : decode cX2_does 22 = .ok (.iload 6, 2) := by decide +kernel
theorem dX2_does_24 : decode cX2_does 24 = .ok (.invokestatic 15, 3) := by decide +kernel
theorem dX2_does_27 : decode cX2_does 27 = .ok (.ifCond .eq 28, 3) := by decide +kernel
theorem dX2_does_30 : decode cX2_does 30 = .ok (.iload 5, 2) := by decide +kernel
theorem dX2_does_32 : decode cX2_does 32 = .ok (.iconst 3, 1) := by decide +kernel
theorem dX2_does_33 : decode cX2_does 33 = .ok (.if_icmp .eq 18, 3) := by decide +kernel
theorem dX2_does_36 : decode cX2_does 36 = .ok (.aload_n 1, 1) := by decide +kernel
theorem dX2_does_37 : decode cX2_does 37 = .ok (.iload 6, 2) := by decide +kernel
theorem dX2_does_39 : decode cX2_does 39 = .ok (.invokevirtual 19, 3) := by decide +kernel
theorem dX2_does_42 : decode cX2_does 42 = .ok (.aload_n 1, 1) := by decide +kernel
theorem dX2_does_43 : decode cX2_does 43 = .ok (.iload 5, 2) := by decide +kernel
theorem dX2_does_45 : decode cX2_does 45 = .ok (.invokevirtual 19, 3) := by decide +kernel
theorem dX2_does_48 : decode cX2_does 48 = .ok (.if_icmp .le 7, 3) := by decide +kernel
theorem dX2_does_51 : decode cX2_does 51 = .ok (.iload 6, 2) := by decide +kernel
theorem dX2_does_53 : decode cX2_does 53 = .ok (.istore 5, 2) := by decide +kernel
theorem dX2_does_55 : decode cX2_does 55 = .ok (.iinc 6 1, 3) := by decide +kernel
theorem dX2_does_58 : decode cX2_does 58 = .ok (.goto (-44), 3) := by decide +kernel
theorem dX2_does_61 : decode cX2_does 61 = .ok (.iload 5, 2) := by decide +kernel
theorem dX2_does_63 : decode cX2_does 63 = .ok (.ireturn, 1) := by decide +kernel
theorem dX2_cuts_0 : decode cX2_cuts 0 = .ok (.bipush 21, 2) := by decide +kernel
theorem dX2_cuts_2 : decode cX2_cuts 2 = .ok (.aload_n 2, 1) := by decide +kernel
theorem dX2_cuts_3 : decode cX2_cuts 3 = .ok (.invokestatic 23, 3) := by decide +kernel
theorem dX2_cuts_6 : decode cX2_cuts 6 = .ok (.aload_n 0, 1) := by decide +kernel
theorem dX2_cuts_7 : decode cX2_cuts 7 = .ok (.iload_n 1, 1) := by decide +kernel
theorem dX2_cuts_8 : decode cX2_cuts 8 = .ok (.aload_n 2, 1) := by decide +kernel
theorem dX2_cuts_9 : decode cX2_cuts 9 = .ok (.invokespecial 29, 3) := by decide +kernel
theorem dX2_cuts_12 : decode cX2_cuts 12 = .ok (.ineg, 1) := by decide +kernel
theorem dX2_cuts_13 : decode cX2_cuts 13 = .ok (.ireturn, 1) := by decide +kernel
theorem dX3_init_0 : decode cX3_init 0 = .ok (.aload_n 0, 1) := by decide +kernel
theorem dX3_init_1 : decode cX3_init 1 = .ok (.iload_n 1, 1) := by decide +kernel
theorem dX3_init_2 : decode cX3_init 2 = .ok (.iload_n 2, 1) := by decide +kernel
theorem dX3_init_3 : decode cX3_init 3 = .ok (.iload_n 3, 1) := by decide +kernel
theorem dX3_init_4 : decode cX3_init 4 = .ok (.invokespecial 1, 3) := by decide +kernel
theorem dX3_init_7 : decode cX3_init 7 = .ok (.return_, 1) := by decide +kernel
theorem dX3_does_0 : decode cX3_does 0 = .ok (.aload_n 1, 1) := by decide +kernel
theorem dX3_does_1 : decode cX3_does 1 = .ok (.iload_n 2, 1) := by decide +kernel
theorem dX3_does_2 : decode cX3_does 2 = .ok (.iload_n 3, 1) := by decide +kernel
theorem dX3_does_3 : decode cX3_does 3 = .ok (.invokevirtual 7, 3) := by decide +kernel
theorem dX3_does_6 : decode cX3_does 6 = .ok (.invokestatic 13, 3) := by decide +kernel
theorem dX3_does_9 : decode cX3_does 9 = .ok (.ireturn, 1) := by decide +kernel
theorem dX3_sows_0 : decode cX3_sows 0 = .ok (.bipush 11, 2) := by decide +kernel
theorem dX3_sows_2 : decode cX3_sows 2 = .ok (.aload_n 2, 1) := by decide +kernel
theorem dX3_sows_3 : decode cX3_sows 3 = .ok (.invokestatic 19, 3) := by decide +kernel
theorem dX3_sows_6 : decode cX3_sows 6 = .ok (.aload_n 0, 1) := by decide +kernel
theorem dX3_sows_7 : decode cX3_sows 7 = .ok (.iload_n 1, 1) := by decide +kernel
theorem dX3_sows_8 : decode cX3_sows 8 = .ok (.iconst 3, 1) := by decide +kernel
theorem dX3_sows_9 : decode cX3_sows 9 = .ok (.imul, 1) := by decide +kernel
theorem dX3_sows_10 : decode cX3_sows 10 = .ok (.aload_n 2, 1) := by decide +kernel
theorem dX3_sows_11 : decode cX3_sows 11 = .ok (.invokespecial 23, 3) := by decide +kernel
theorem dX3_sows_14 : decode cX3_sows 14 = .ok (.ireturn, 1) := by decide +kernel
theorem dX4_init_0 : decode cX4_init 0 = .ok (.aload_n 0, 1) := by decide +kernel
theorem dX4_init_1 : decode cX4_init 1 = .ok (.invokespecial 3, 3) := by decide +kernel
theorem dX4_init_4 : decode cX4_init 4 = .ok (.aload_n 0, 1) := by decide +kernel
theorem dX4_init_5 : decode cX4_init 5 = .ok (.iconst 0, 1) := by decide +kernel
theorem dX4_init_6 : decode cX4_init 6 = .ok (.newarray .int, 2) := by decide +kernel
theorem dX4_init_8 : decode cX4_init 8 = .ok (.putfield 9, 3) := by decide +kernel
theorem dX4_init_11 : decode cX4_init 11 = .ok (.aload_n 0, 1) := by decide +kernel
theorem dX4_init_12 : decode cX4_init 12 = .ok (.bipush 100, 2) := by decide +kernel
theorem dX4_init_14 : decode cX4_init 14 = .ok (.newarray .int, 2) := by decide +kernel
theorem dX4_init_16 : decode cX4_init 16 = .ok (.putfield 15, 3) := by decide +kernel
theorem dX4_init_19 : decode cX4_init 19 = .ok (.aload_n 0, 1) := by decide +kernel
theorem dX4_init_20 : decode cX4_init 20 = .ok (.bipush 10, 2) := by decide +kernel
theorem dX4_init_22 : decode cX4_init 22 = .ok (.newarray .int, 2) := by decide +kernel
theorem dX4_init_24 : decode cX4_init 24 = .ok (.putfield 18, 3) := by decide +kernel
theorem dX4_init_27 : decode cX4_init 27 = .ok (.aload_n 0, 1) := by decide +kernel
theorem dX4_init_28 : decode cX4_init 28 = .ok (.bipush 10, 2) := by decide +kernel
theorem dX4_init_30 : decode cX4_init 30 = .ok (.newarray .int, 2) := by decide +kernel
theorem dX4_init_32 : decode cX4_init 32 = .ok (.putfield 21, 3) := by decide +kernel
theorem dX4_init_35 : decode cX4_init 35 = .ok (.aload_n 0, 1) := by decide +kernel
theorem dX4_init_36 : decode cX4_init 36 = .ok (.iconst 3, 1) := by decide +kernel
theorem dX4_init_37 : decode cX4_init 37 = .ok (.newarray .int, 2) := by decide +kernel
theorem dX4_init_39 : decode cX4_init 39 = .ok (.putfield 24, 3) := by decide +kernel
theorem dX4_init_42 : decode cX4_init 42 = .ok (.return_, 1) := by decide +kernel
theorem dX4_fault_0 : decode cX4_fault 0 = .ok (.aload_n 0, 1) := by decide +kernel
theorem dX4_fault_1 : decode cX4_fault 1 = .ok (.aload_n 1, 1) := by decide +kernel
theorem dX4_fault_2 : decode cX4_fault 2 = .ok (.putfield 9, 3) := by decide +kernel
theorem dX4_fault_5 : decode cX4_fault 5 = .ok (.aload_n 0, 1) := by decide +kernel
theorem dX4_fault_6 : decode cX4_fault 6 = .ok (.iload_n 2, 1) := by decide +kernel
theorem dX4_fault_7 : decode cX4_fault 7 = .ok (.putfield 27, 3) := by decide +kernel
theorem dX4_fault_10 : decode cX4_fault 10 = .ok (.aload_n 0, 1) := by decide +kernel
theorem dX4_fault_11 : decode cX4_fault 11 = .ok (.iconst 0, 1) := by decide +kernel
theorem dX4_fault_12 : decode cX4_fault 12 = .ok (.putfield 31, 3) := by decide +kernel
theorem dX4_fault_15 : decode cX4_fault 15 = .ok (.aload_n 0, 1) := by decide +kernel
theorem dX4_fault_16 : decode cX4_fault 16 = .ok (.iconst 0, 1) := by decide +kernel
theorem dX4_fault_17 : decode cX4_fault 17 = .ok (.putfield 34, 3) := by decide +kernel
theorem dX4_fault_20 : decode cX4_fault 20 = .ok (.aload_n 0, 1) := by decide +kernel
theorem dX4_fault_21 : decode cX4_fault 21 = .ok (.iconst 0, 1) := by decide +kernel
theorem dX4_fault_22 : decode cX4_fault 22 = .ok (.putfield 37, 3) := by decide +kernel
theorem dX4_fault_25 : decode cX4_fault 25 = .ok (.aload_n 0, 1) := by decide +kernel
theorem dX4_fault_26 : decode cX4_fault 26 = .ok (.getfield 24, 3) := by decide +kernel
theorem dX4_fault_29 : decode cX4_fault 29 = .ok (.iconst 1, 1) := by decide +kernel
theorem dX4_fault_30 : decode cX4_fault 30 = .ok (.invokestatic 40, 3) := by decide +kernel
theorem dX4_fault_33 : decode cX4_fault 33 = .ok (.aload_n 0, 1) := by decide +kernel
theorem dX4_fault_34 : decode cX4_fault 34 = .ok (.iconst 0, 1) := by decide +kernel
theorem dX4_fault_35 : decode cX4_fault 35 = .ok (.putfield 46, 3) := by decide +kernel
theorem dX4_fault_38 : decode cX4_fault 38 = .ok (.iconst 1, 1) := by decide +kernel
theorem dX4_fault_39 : decode cX4_fault 39 = .ok (.istore_n 3, 1) := by decide +kernel
theorem dX4_fault_40 : decode cX4_fault 40 = .ok (.iload_n 3, 1) := by decide +kernel
theorem dX4_fault_41 : decode cX4_fault 41 = .ok (.bipush 10, 2) := by decide +kernel
theorem dX4_fault_43 : decode cX4_fault 43 = .ok (.if_icmp .gt 54, 3) := by decide +kernel
theorem dX4_fault_46 : decode cX4_fault 46 = .ok (.aload_n 0, 1) := by decide +kernel
theorem dX4_fault_47 : decode cX4_fault 47 = .ok (.invokevirtual 49, 3) := by decide +kernel
theorem dX4_fault_50 : decode cX4_fault 50 = .ok (.ifCond .ne 8, 3) := by decide +kernel
theorem dX4_fault_53 : decode cX4_fault 53 = .ok (.aload_n 0, 1) := by decide +kernel
theorem dX4_fault_54 : decode cX4_fault 54 = .ok (.getfield 31, 3) := by decide +kernel
theorem dX4_fault_57 : decode cX4_fault 57 = .ok (.ireturn, 1) := by decide +kernel
theorem dX4_fault_58 : decode cX4_fault 58 = .ok (.aload_n 0, 1) := by decide +kernel
theorem dX4_fault_59 : decode cX4_fault 59 = .ok (.getfield 31, 3) := by decide +kernel
theorem dX4_fault_62 : decode cX4_fault 62 = .ok (.aload_n 0, 1) := by decide +kernel
theorem dX4_fault_63 : decode cX4_fault 63 = .ok (.getfield 27, 3) := by decide +kernel
theorem dX4_fault_66 : decode cX4_fault 66 = .ok (.if_icmp .lt 5, 3) := by decide +kernel
theorem dX4_fault_69 : decode cX4_fault 69 = .ok (.iconst (-1), 1) := by decide +kernel
theorem dX4_fault_70 : decode cX4_fault 70 = .ok (.ireturn, 1) := by decide +kernel
theorem dX4_fault_71 : decode cX4_fault 71 = .ok (.iload_n 3, 1) := by decide +kernel
theorem dX4_fault_72 : decode cX4_fault 72 = .ok (.bipush 10, 2) := by decide +kernel
theorem dX4_fault_74 : decode cX4_fault 74 = .ok (.if_icmp .eq 12, 3) := by decide +kernel
theorem dX4_fault_77 : decode cX4_fault 77 = .ok (.aload_n 0, 1) := by decide +kernel
theorem dX4_fault_78 : decode cX4_fault 78 = .ok (.bipush 59, 2) := by decide +kernel
theorem dX4_fault_80 : decode cX4_fault 80 = .ok (.invokevirtual 53, 3) := by decide +kernel
theorem dX4_fault_83 : decode cX4_fault 83 = .ok (.ifCond .ne 8, 3) := by decide +kernel
theorem dX4_fault_86 : decode cX4_fault 86 = .ok (.aload_n 0, 1) := by decide +kernel
theorem dX4_fault_87 : decode cX4_fault 87 = .ok (.getfield 31, 3) := by decide +kernel
theorem dX4_fault_90 : decode cX4_fault 90 = .ok (.ireturn, 1) := by decide +kernel
theorem dX4_fault_91 : decode cX4_fault 91 = .ok (.iinc 3 1, 3) := by decide +kernel
theorem dX4_fault_94 : decode cX4_fault 94 = .ok (.goto (-54), 3) := by decide +kernel
theorem dX4_fault_97 : decode cX4_fault 97 = .ok (.aload_n 0, 1) := by decide +kernel
theorem dX4_fault_98 : decode cX4_fault 98 = .ok (.getfield 31, 3) := by decide +kernel
theorem dX4_fault_101 : decode cX4_fault 101 = .ok (.ireturn, 1) := by decide +kernel
theorem dX4_made_0 : decode cX4_made 0 = .ok (.new 57, 3) := by decide +kernel
theorem dX4_made_3 : decode cX4_made 3 = .ok (.dup, 1) := by decide +kernel
theorem dX4_made_4 : decode cX4_made 4 = .ok (.aload_n 0, 1) := by decide +kernel
theorem dX4_made_5 : decode cX4_made 5 = .ok (.getfield 15, 3) := by decide +kernel
theorem dX4_made_8 : decode cX4_made 8 = .ok (.aload_n 0, 1) := by decide +kernel
theorem dX4_made_9 : decode cX4_made 9 = .ok (.getfield 34, 3) := by decide +kernel
theorem dX4_made_12 : decode cX4_made 12 = .ok (.invokestatic 59, 3) := by decide +kernel
theorem dX4_made_15 : decode cX4_made 15 = .ok (.aload_n 0, 1) := by decide +kernel
theorem dX4_made_16 : decode cX4_made 16 = .ok (.getfield 18, 3) := by decide +kernel
theorem dX4_made_19 : decode cX4_made 19 = .ok (.aload_n 0, 1) := by decide +kernel
theorem dX4_made_20 : decode cX4_made 20 = .ok (.getfield 37, 3) := by decide +kernel
theorem dX4_made_23 : decode cX4_made 23 = .ok (.invokestatic 59, 3) := by decide +kernel
theorem dX4_made_26 : decode cX4_made 26 = .ok (.aload_n 0, 1) := by decide +kernel
theorem dX4_made_27 : decode cX4_made 27 = .ok (.getfield 21, 3) := by decide +kernel
theorem dX4_made_30 : decode cX4_made 30 = .ok (.aload_n 0, 1) := by decide +kernel
theorem dX4_made_31 : decode cX4_made 31 = .ok (.getfield 37, 3) := by decide +kernel
theorem dX4_made_34 : decode cX4_made 34 = .ok (.invokestatic 59, 3) := by decide +kernel
theorem dX4_made_37 : decode cX4_made 37 = .ok (.aload_n 0, 1) := by decide +kernel
theorem dX4_made_38 : decode cX4_made 38 = .ok (.getfield 24, 3) := by decide +kernel
theorem dX4_made_41 : decode cX4_made 41 = .ok (.invokevirtual 63, 3) := by decide +kernel
theorem dX4_made_44 : decode cX4_made 44 = .ok (.checkcast 64, 3) := by decide +kernel
theorem dX4_made_47 : decode cX4_made 47 = .ok (.aload_n 0, 1) := by decide +kernel
theorem dX4_made_48 : decode cX4_made 48 = .ok (.getfield 46, 3) := by decide +kernel
theorem dX4_made_51 : decode cX4_made 51 = .ok (.invokespecial 68, 3) := by decide +kernel
theorem dX4_made_54 : decode cX4_made 54 = .ok (.areturn, 1) := by decide +kernel
theorem dX4_sees_0 : decode cX4_sees 0 = .ok (.aload_n 0, 1) := by decide +kernel
theorem dX4_sees_1 : decode cX4_sees 1 = .ok (.getfield 31, 3) := by decide +kernel
theorem dX4_sees_4 : decode cX4_sees 4 = .ok (.aload_n 0, 1) := by decide +kernel
theorem dX4_sees_5 : decode cX4_sees 5 = .ok (.getfield 27, 3) := by decide +kernel
theorem dX4_sees_8 : decode cX4_sees 8 = .ok (.if_icmp .ge 20, 3) := by decide +kernel
theorem dX4_sees_11 : decode cX4_sees 11 = .ok (.aload_n 0, 1) := by decide +kernel
theorem dX4_sees_12 : decode cX4_sees 12 = .ok (.getfield 9, 3) := by decide +kernel
theorem dX4_sees_15 : decode cX4_sees 15 = .ok (.aload_n 0, 1) := by decide +kernel
theorem dX4_sees_16 : decode cX4_sees 16 = .ok (.getfield 31, 3) := by decide +kernel
theorem dX4_sees_19 : decode cX4_sees 19 = .ok (.iaload, 1) := by decide +kernel
theorem dX4_sees_20 : decode cX4_sees 20 = .ok (.iload_n 1, 1) := by decide +kernel
theorem dX4_sees_21 : decode cX4_sees 21 = .ok (.if_icmp .ne 7, 3) := by decide +kernel
theorem dX4_sees_24 : decode cX4_sees 24 = .ok (.iconst 1, 1) := by decide +kernel
theorem dX4_sees_25 : decode cX4_sees 25 = .ok (.goto 4, 3) := by decide +kernel
theorem dX4_sees_28 : decode cX4_sees 28 = .ok (.iconst 0, 1) := by decide +kernel
theorem dX4_sees_29 : decode cX4_sees 29 = .ok (.ireturn, 1) := by decide +kernel
theorem dX4_eats_0 : decode cX4_eats 0 = .ok (.aload_n 0, 1) := by decide +kernel
theorem dX4_eats_1 : decode cX4_eats 1 = .ok (.iload_n 1, 1) := by decide +kernel
theorem dX4_eats_2 : decode cX4_eats 2 = .ok (.invokevirtual 71, 3) := by decide +kernel
theorem dX4_eats_5 : decode cX4_eats 5 = .ok (.ifCond .ne 5, 3) := by decide +kernel
theorem dX4_eats_8 : decode cX4_eats 8 = .ok (.iconst 0, 1) := by decide +kernel
theorem dX4_eats_9 : decode cX4_eats 9 = .ok (.ireturn, 1) := by decide +kernel
theorem dX4_eats_10 : decode cX4_eats 10 = .ok (.aload_n 0, 1) := by decide +kernel
theorem dX4_eats_11 : decode cX4_eats 11 = .ok (.dup, 1) := by decide +kernel
theorem dX4_eats_12 : decode cX4_eats 12 = .ok (.getfield 31, 3) := by decide +kernel
theorem dX4_eats_15 : decode cX4_eats 15 = .ok (.iconst 1, 1) := by decide +kernel
theorem dX4_eats_16 : decode cX4_eats 16 = .ok (.iadd, 1) := by decide +kernel
theorem dX4_eats_17 : decode cX4_eats 17 = .ok (.putfield 31, 3) := by decide +kernel
theorem dX4_eats_20 : decode cX4_eats 20 = .ok (.iconst 1, 1) := by decide +kernel
theorem dX4_eats_21 : decode cX4_eats 21 = .ok (.ireturn, 1) := by decide +kernel
theorem dX4_eatsAll_0 : decode cX4_eatsAll 0 = .ok (.iconst 0, 1) := by decide +kernel
theorem dX4_eatsAll_1 : decode cX4_eatsAll 1 = .ok (.istore_n 2, 1) := by decide +kernel
theorem dX4_eatsAll_2 : decode cX4_eatsAll 2 = .ok (.iload_n 2, 1) := by decide +kernel
theorem dX4_eatsAll_3 : decode cX4_eatsAll 3 = .ok (.aload_n 1, 1) := by decide +kernel
theorem dX4_eatsAll_4 : decode cX4_eatsAll 4 = .ok (.invokevirtual 74, 3) := by decide +kernel
theorem dX4_eatsAll_7 : decode cX4_eatsAll 7 = .ok (.if_icmp .ge 23, 3) := by decide +kernel
theorem dX4_eatsAll_10 : decode cX4_eatsAll 10 = .ok (.aload_n 0, 1) := by decide +kernel
theorem dX4_eatsAll_11 : decode cX4_eatsAll 11 = .ok (.aload_n 1, 1) := by decide +kernel
theorem dX4_eatsAll_12 : decode cX4_eatsAll 12 = .ok (.iload_n 2, 1) := by decide +kernel
theorem dX4_eatsAll_13 : decode cX4_eatsAll 13 = .ok (.invokevirtual 79, 3) := by decide +kernel
theorem dX4_eatsAll_16 : decode cX4_eatsAll 16 = .ok (.invokevirtual 53, 3) := by decide +kernel
theorem dX4_eatsAll_19 : decode cX4_eatsAll 19 = .ok (.ifCond .ne 5, 3) := by decide +kernel
theorem dX4_eatsAll_22 : decode cX4_eatsAll 22 = .ok (.iconst 0, 1) := by decide +kernel
theorem dX4_eatsAll_23 : decode cX4_eatsAll 23 = .ok (.ireturn, 1) := by decide +kernel
theorem dX4_eatsAll_24 : decode cX4_eatsAll 24 = .ok (.iinc 2 1, 3) := by decide +kernel
theorem dX4_eatsAll_27 : decode cX4_eatsAll 27 = .ok (.goto (-25), 3) := by decide +kernel
theorem dX4_eatsAll_30 : decode cX4_eatsAll 30 = .ok (.iconst 1, 1) := by decide +kernel
theorem dX4_eatsAll_31 : decode cX4_eatsAll 31 = .ok (.ireturn, 1) := by decide +kernel
theorem dX4_eatsOneOf_0 : decode cX4_eatsOneOf 0 = .ok (.aload_n 0, 1) := by decide +kernel
theorem dX4_eatsOneOf_1 : decode cX4_eatsOneOf 1 = .ok (.getfield 31, 3) := by decide +kernel
theorem dX4_eatsOneOf_4 : decode cX4_eatsOneOf 4 = .ok (.aload_n 0, 1) := by decide +kernel
theorem dX4_eatsOneOf_5 : decode cX4_eatsOneOf 5 = .ok (.getfield 27, 3) := by decide +kernel
theorem dX4_eatsOneOf_8 : decode cX4_eatsOneOf 8 = .ok (.if_icmp .lt 5, 3) := by decide +kernel
theorem dX4_eatsOneOf_11 : decode cX4_eatsOneOf 11 = .ok (.iconst (-1), 1) := by decide +kernel
theorem dX4_eatsOneOf_12 : decode cX4_eatsOneOf 12 = .ok (.ireturn, 1) := by decide +kernel
theorem dX4_eatsOneOf_13 : decode cX4_eatsOneOf 13 = .ok (.aload_n 1, 1) := by decide +kernel
theorem dX4_eatsOneOf_14 : decode cX4_eatsOneOf 14 = .ok (.aload_n 0, 1) := by decide +kernel
theorem dX4_eatsOneOf_15 : decode cX4_eatsOneOf 15 = .ok (.getfield 9, 3) := by decide +kernel
theorem dX4_eatsOneOf_18 : decode cX4_eatsOneOf 18 = .ok (.aload_n 0, 1) := by decide +kernel
theorem dX4_eatsOneOf_19 : decode cX4_eatsOneOf 19 = .ok (.getfield 31, 3) := by decide +kernel
theorem dX4_eatsOneOf_22 : decode cX4_eatsOneOf 22 = .ok (.iaload, 1) := by decide +kernel
theorem dX4_eatsOneOf_23 : decode cX4_eatsOneOf 23 = .ok (.i2c, 1) := by decide +kernel
theorem dX4_eatsOneOf_24 : decode cX4_eatsOneOf 24 = .ok (.invokevirtual 83, 3) := by decide +kernel
theorem dX4_eatsOneOf_27 : decode cX4_eatsOneOf 27 = .ok (.istore_n 2, 1) := by decide +kernel
theorem dX4_eatsOneOf_28 : decode cX4_eatsOneOf 28 = .ok (.iload_n 2, 1) := by decide +kernel
theorem dX4_eatsOneOf_29 : decode cX4_eatsOneOf 29 = .ok (.ifCond .lt 13, 3) := by decide +kernel
theorem dX4_eatsOneOf_32 : decode cX4_eatsOneOf 32 = .ok (.aload_n 0, 1) := by decide +kernel
theorem dX4_eatsOneOf_33 : decode cX4_eatsOneOf 33 = .ok (.dup, 1) := by decide +kernel
theorem dX4_eatsOneOf_34 : decode cX4_eatsOneOf 34 = .ok (.getfield 31, 3) := by decide +kernel
theorem dX4_eatsOneOf_37 : decode cX4_eatsOneOf 37 = .ok (.iconst 1, 1) := by decide +kernel
theorem dX4_eatsOneOf_38 : decode cX4_eatsOneOf 38 = .ok (.iadd, 1) := by decide +kernel
theorem dX4_eatsOneOf_39 : decode cX4_eatsOneOf 39 = .ok (.putfield 31, 3) := by decide +kernel
theorem dX4_eatsOneOf_42 : decode cX4_eatsOneOf 42 = .ok (.iload_n 2, 1) := by decide +kernel
theorem dX4_eatsOneOf_43 : decode cX4_eatsOneOf 43 = .ok (.ireturn, 1) := by decide +kernel
theorem dX4_number_0 : decode cX4_number 0 = .ok (.aload_n 0, 1) := by decide +kernel
theorem dX4_number_1 : decode cX4_number 1 = .ok (.ldc 87, 2) := by decide +kernel
theorem dX4_number_3 : decode cX4_number 3 = .ok (.invokevirtual 89, 3) := by decide +kernel
theorem dX4_number_6 : decode cX4_number 6 = .ok (.istore_n 1, 1) := by decide +kernel
theorem dX4_number_7 : decode cX4_number 7 = .ok (.iload_n 1, 1) := by decide +kernel
theorem dX4_number_8 : decode cX4_number 8 = .ok (.ifCond .gt 5, 3) := by decide +kernel
theorem dX4_number_11 : decode cX4_number 11 = .ok (.iload_n 1, 1) := by decide +kernel
theorem dX4_number_12 : decode cX4_number 12 = .ok (.ireturn, 1) := by decide +kernel
theorem dX4_number_13 : decode cX4_number 13 = .ok (.aload_n 0, 1) := by decide +kernel
theorem dX4_number_14 : decode cX4_number 14 = .ok (.ldc 87, 2) := by decide +kernel
theorem dX4_number_16 : decode cX4_number 16 = .ok (.invokevirtual 89, 3) := by decide +kernel
theorem dX4_number_19 : decode cX4_number 19 = .ok (.istore_n 2, 1) := by decide +kernel
theorem dX4_number_20 : decode cX4_number 20 = .ok (.iload_n 2, 1) := by decide +kernel
theorem dX4_number_21 : decode cX4_number 21 = .ok (.ifCond .ge 7, 3) := by decide +kernel
theorem dX4_number_24 : decode cX4_number 24 = .ok (.iload_n 1, 1) := by decide +kernel
theorem dX4_number_25 : decode cX4_number 25 = .ok (.goto 9, 3) := by decide +kernel
theorem dX4_number_28 : decode cX4_number 28 = .ok (.iload_n 1, 1) := by decide +kernel
theorem dX4_number_29 : decode cX4_number 29 = .ok (.bipush 10, 2) := by decide +kernel
theorem dX4_number_31 : decode cX4_number 31 = .ok (.imul, 1) := by decide +kernel
theorem dX4_number_32 : decode cX4_number 32 = .ok (.iload_n 2, 1) := by decide +kernel
theorem dX4_number_33 : decode cX4_number 33 = .ok (.iadd, 1) := by decide +kernel
theorem dX4_number_34 : decode cX4_number 34 = .ok (.ireturn, 1) := by decide +kernel
theorem dX4_clause_0 : decode cX4_clause 0 = .ok (.aload_n 0, 1) := by decide +kernel
theorem dX4_clause_1 : decode cX4_clause 1 = .ok (.bipush 112, 2) := by decide +kernel
theorem dX4_clause_3 : decode cX4_clause 3 = .ok (.invokevirtual 71, 3) := by decide +kernel
theorem dX4_clause_6 : decode cX4_clause 6 = .ok (.ifCond .eq 8, 3) := by decide +kernel
theorem dX4_clause_9 : decode cX4_clause 9 = .ok (.aload_n 0, 1) := by decide +kernel
theorem dX4_clause_10 : decode cX4_clause 10 = .ok (.invokevirtual 93, 3) := by decide +kernel
theorem dX4_clause_13 : decode cX4_clause 13 = .ok (.ireturn, 1) := by decide +kernel
theorem dX4_clause_14 : decode cX4_clause 14 = .ok (.aload_n 0, 1) := by decide +kernel
theorem dX4_clause_15 : decode cX4_clause 15 = .ok (.bipush 99, 2) := by decide +kernel
theorem dX4_clause_17 : decode cX4_clause 17 = .ok (.invokevirtual 53, 3) := by decide +kernel
theorem dX4_clause_20 : decode cX4_clause 20 = .ok (.ifCond .ne 5, 3) := by decide +kernel
theorem dX4_clause_23 : decode cX4_clause 23 = .ok (.iconst 0, 1) := by decide +kernel
theorem dX4_clause_24 : decode cX4_clause 24 = .ok (.ireturn, 1) := by decide +kernel
theorem dX4_clause_25 : decode cX4_clause 25 = .ok (.aload_n 0, 1) := by decide +kernel
theorem dX4_clause_26 : decode cX4_clause 26 = .ok (.bipush 97, 2) := by decide +kernel
theorem dX4_clause_28 : decode cX4_clause 28 = .ok (.invokevirtual 71, 3) := by decide +kernel
theorem dX4_clause_31 : decode cX4_clause 31 = .ok (.ifCond .eq 10, 3) := by decide +kernel
theorem dX4_clause_34 : decode cX4_clause 34 = .ok (.aload_n 0, 1) := by decide +kernel
theorem dX4_clause_35 : decode cX4_clause 35 = .ok (.invokevirtual 96, 3) := by decide +kernel
theorem dX4_clause_38 : decode cX4_clause 38 = .ok (.goto 7, 3) := by decide +kernel
theorem dX4_clause_41 : decode cX4_clause 41 = .ok (.aload_n 0, 1) := by decide +kernel
theorem dX4_clause_42 : decode cX4_clause 42 = .ok (.invokevirtual 99, 3) := by decide +kernel
theorem dX4_clause_45 : decode cX4_clause 45 = .ok (.ireturn, 1) := by decide +kernel
theorem dX4_payClause_0 : decode cX4_payClause 0 = .ok (.aload_n 0, 1) := by decide +kernel
theorem dX4_payClause_1 : decode cX4_payClause 1 = .ok (.ldc 102, 2) := by decide +kernel
theorem dX4_payClause_3 : decode cX4_payClause 3 = .ok (.invokevirtual 104, 3) := by decide +kernel
theorem dX4_payClause_6 : decode cX4_payClause 6 = .ok (.ifCond .ne 5, 3) := by decide +kernel
theorem dX4_payClause_9 : decode cX4_payClause 9 = .ok (.iconst 0, 1) := by decide +kernel
theorem dX4_payClause_10 : decode cX4_payClause 10 = .ok (.ireturn, 1) := by decide +kernel
theorem dX4_payClause_11 : decode cX4_payClause 11 = .ok (.aload_n 0, 1) := by decide +kernel
theorem dX4_payClause_12 : decode cX4_payClause 12 = .ok (.ldc 108, 2) := by decide +kernel
theorem dX4_payClause_14 : decode cX4_payClause 14 = .ok (.invokevirtual 89, 3) := by decide +kernel
theorem dX4_payClause_17 : decode cX4_payClause 17 = .ok (.istore_n 1, 1) := by decide +kernel
theorem dX4_payClause_18 : decode cX4_payClause 18 = .ok (.iload_n 1, 1) := by decide +kernel
theorem dX4_payClause_19 : decode cX4_payClause 19 = .ok (.ifCond .lt 12, 3) := by decide +kernel
theorem dX4_payClause_22 : decode cX4_payClause 22 = .ok (.aload_n 0, 1) := by decide +kernel
theorem dX4_payClause_23 : decode cX4_payClause 23 = .ok (.bipush 32, 2) := by decide +kernel
theorem dX4_payClause_25 : decode cX4_payClause 25 = .ok (.invokevirtual 53, 3) := by decide +kernel
theorem dX4_payClause_28 : decode cX4_payClause 28 = .ok (.ifCond .ne 5, 3) := by decide +kernel
theorem dX4_payClause_31 : decode cX4_payClause 31 = .ok (.iconst 0, 1) := by decide +kernel
theorem dX4_payClause_32 : decode cX4_payClause 32 = .ok (.ireturn, 1) := by decide +kernel
theorem dX4_payClause_33 : decode cX4_payClause 33 = .ok (.aload_n 0, 1) := by decide +kernel
theorem dX4_payClause_34 : decode cX4_payClause 34 = .ok (.invokevirtual 110, 3) := by decide +kernel
theorem dX4_payClause_37 : decode cX4_payClause 37 = .ok (.istore_n 2, 1) := by decide +kernel
theorem dX4_payClause_38 : decode cX4_payClause 38 = .ok (.iload_n 2, 1) := by decide +kernel
theorem dX4_payClause_39 : decode cX4_payClause 39 = .ok (.ifCond .ge 5, 3) := by decide +kernel
theorem dX4_payClause_42 : decode cX4_payClause 42 = .ok (.iconst 0, 1) := by decide +kernel
theorem dX4_payClause_43 : decode cX4_payClause 43 = .ok (.ireturn, 1) := by decide +kernel
theorem dX4_payClause_44 : decode cX4_payClause 44 = .ok (.aload_n 0, 1) := by decide +kernel
theorem dX4_payClause_45 : decode cX4_payClause 45 = .ok (.getfield 24, 3) := by decide +kernel
theorem dX4_payClause_48 : decode cX4_payClause 48 = .ok (.iload_n 1, 1) := by decide +kernel
theorem dX4_payClause_49 : decode cX4_payClause 49 = .ok (.iload_n 2, 1) := by decide +kernel
theorem dX4_payClause_50 : decode cX4_payClause 50 = .ok (.iastore, 1) := by decide +kernel
theorem dX4_payClause_51 : decode cX4_payClause 51 = .ok (.iconst 1, 1) := by decide +kernel
theorem dX4_payClause_52 : decode cX4_payClause 52 = .ok (.ireturn, 1) := by decide +kernel
theorem dX4_coverClause_0 : decode cX4_coverClause 0 = .ok (.aload_n 0, 1) := by decide +kernel
theorem dX4_coverClause_1 : decode cX4_coverClause 1 = .ok (.ldc 113, 2) := by decide +kernel
theorem dX4_coverClause_3 : decode cX4_coverClause 3 = .ok (.invokevirtual 104, 3) := by decide +kernel
theorem dX4_coverClause_6 : decode cX4_coverClause 6 = .ok (.ifCond .ne 5, 3) := by decide +kernel
theorem dX4_coverClause_9 : decode cX4_coverClause 9 = .ok (.iconst 0, 1) := by decide +kernel
theorem dX4_coverClause_10 : decode cX4_coverClause 10 = .ok (.ireturn, 1) := by decide +kernel
theorem dX4_coverClause_11 : decode cX4_coverClause 11 = .ok (.aload_n 0, 1) := by decide +kernel
theorem dX4_coverClause_12 : decode cX4_coverClause 12 = .ok (.invokevirtual 110, 3) := by decide +kernel
theorem dX4_coverClause_15 : decode cX4_coverClause 15 = .ok (.istore_n 1, 1) := by decide +kernel
theorem dX4_coverClause_16 : decode cX4_coverClause 16 = .ok (.iload_n 1, 1) := by decide +kernel
theorem dX4_coverClause_17 : decode cX4_coverClause 17 = .ok (.ifCond .ge 5, 3) := by decide +kernel
theorem dX4_coverClause_20 : decode cX4_coverClause 20 = .ok (.iconst 0, 1) := by decide +kernel
theorem dX4_coverClause_21 : decode cX4_coverClause 21 = .ok (.ireturn, 1) := by decide +kernel
theorem dX4_coverClause_22 : decode cX4_coverClause 22 = .ok (.aload_n 0, 1) := by decide +kernel
theorem dX4_coverClause_23 : decode cX4_coverClause 23 = .ok (.iload_n 1, 1) := by decide +kernel
theorem dX4_coverClause_24 : decode cX4_coverClause 24 = .ok (.putfield 46, 3) := by decide +kernel
theorem dX4_coverClause_27 : decode cX4_coverClause 27 = .ok (.iconst 1, 1) := by decide +kernel
theorem dX4_coverClause_28 : decode cX4_coverClause 28 = .ok (.ireturn, 1) := by decide +kernel
theorem dX4_canClause_0 : decode cX4_canClause 0 = .ok (.aload_n 0, 1) := by decide +kernel
theorem dX4_canClause_1 : decode cX4_canClause 1 = .ok (.ldc 115, 2) := by decide +kernel
theorem dX4_canClause_3 : decode cX4_canClause 3 = .ok (.invokevirtual 104, 3) := by decide +kernel
theorem dX4_canClause_6 : decode cX4_canClause 6 = .ok (.ifCond .ne 5, 3) := by decide +kernel
theorem dX4_canClause_9 : decode cX4_canClause 9 = .ok (.iconst 0, 1) := by decide +kernel
theorem dX4_canClause_10 : decode cX4_canClause 10 = .ok (.ireturn, 1) := by decide +kernel
theorem dX4_canClause_11 : decode cX4_canClause 11 = .ok (.aload_n 0, 1) := by decide +kernel
theorem dX4_canClause_12 : decode cX4_canClause 12 = .ok (.ldc 108, 2) := by decide +kernel
theorem dX4_canClause_14 : decode cX4_canClause 14 = .ok (.invokevirtual 89, 3) := by decide +kernel
theorem dX4_canClause_17 : decode cX4_canClause 17 = .ok (.istore_n 1, 1) := by decide +kernel
theorem dX4_canClause_18 : decode cX4_canClause 18 = .ok (.iload_n 1, 1) := by decide +kernel
theorem dX4_canClause_19 : decode cX4_canClause 19 = .ok (.ifCond .lt 20, 3) := by decide +kernel
theorem dX4_canClause_22 : decode cX4_canClause 22 = .ok (.aload_n 0, 1) := by decide +kernel
theorem dX4_canClause_23 : decode cX4_canClause 23 = .ok (.bipush 32, 2) := by decide +kernel
theorem dX4_canClause_25 : decode cX4_canClause 25 = .ok (.invokevirtual 53, 3) := by decide +kernel
theorem dX4_canClause_28 : decode cX4_canClause 28 = .ok (.ifCond .eq 11, 3) := by decide +kernel
theorem dX4_canClause_31 : decode cX4_canClause 31 = .ok (.aload_n 0, 1) := by decide +kernel
theorem dX4_canClause_32 : decode cX4_canClause 32 = .ok (.iconst 0, 1) := by decide +kernel
theorem dX4_canClause_33 : decode cX4_canClause 33 = .ok (.invokevirtual 117, 3) := by decide +kernel
theorem dX4_canClause_36 : decode cX4_canClause 36 = .ok (.ifCond .ne 5, 3) := by decide +kernel
theorem dX4_canClause_39 : decode cX4_canClause 39 = .ok (.iconst 0, 1) := by decide +kernel
theorem dX4_canClause_40 : decode cX4_canClause 40 = .ok (.ireturn, 1) := by decide +kernel
theorem dX4_canClause_41 : decode cX4_canClause 41 = .ok (.aload_n 0, 1) := by decide +kernel
theorem dX4_canClause_42 : decode cX4_canClause 42 = .ok (.getfield 18, 3) := by decide +kernel
theorem dX4_canClause_45 : decode cX4_canClause 45 = .ok (.aload_n 0, 1) := by decide +kernel
theorem dX4_canClause_46 : decode cX4_canClause 46 = .ok (.getfield 37, 3) := by decide +kernel
theorem dX4_canClause_49 : decode cX4_canClause 49 = .ok (.iload_n 1, 1) := by decide +kernel
theorem dX4_canClause_50 : decode cX4_canClause 50 = .ok (.iastore, 1) := by decide +kernel
theorem dX4_canClause_51 : decode cX4_canClause 51 = .ok (.aload_n 0, 1) := by decide +kernel
theorem dX4_canClause_52 : decode cX4_canClause 52 = .ok (.getfield 21, 3) := by decide +kernel
theorem dX4_canClause_55 : decode cX4_canClause 55 = .ok (.aload_n 0, 1) := by decide +kernel
theorem dX4_canClause_56 : decode cX4_canClause 56 = .ok (.getfield 37, 3) := by decide +kernel
theorem dX4_canClause_59 : decode cX4_canClause 59 = .ok (.aload_n 0, 1) := by decide +kernel
theorem dX4_canClause_60 : decode cX4_canClause 60 = .ok (.getfield 34, 3) := by decide +kernel
theorem dX4_canClause_63 : decode cX4_canClause 63 = .ok (.iastore, 1) := by decide +kernel
theorem dX4_canClause_64 : decode cX4_canClause 64 = .ok (.aload_n 0, 1) := by decide +kernel
theorem dX4_canClause_65 : decode cX4_canClause 65 = .ok (.dup, 1) := by decide +kernel
theorem dX4_canClause_66 : decode cX4_canClause 66 = .ok (.getfield 37, 3) := by decide +kernel
theorem dX4_canClause_69 : decode cX4_canClause 69 = .ok (.iconst 1, 1) := by decide +kernel
theorem dX4_canClause_70 : decode cX4_canClause 70 = .ok (.iadd, 1) := by decide +kernel
theorem dX4_canClause_71 : decode cX4_canClause 71 = .ok (.putfield 37, 3) := by decide +kernel
theorem dX4_canClause_74 : decode cX4_canClause 74 = .ok (.iconst 1, 1) := by decide +kernel
theorem dX4_canClause_75 : decode cX4_canClause 75 = .ok (.ireturn, 1) := by decide +kernel
theorem dX4_either_0 : decode cX4_either 0 = .ok (.aload_n 0, 1) := by decide +kernel
theorem dX4_either_1 : decode cX4_either 1 = .ok (.iload_n 1, 1) := by decide +kernel
theorem dX4_either_2 : decode cX4_either 2 = .ok (.invokevirtual 121, 3) := by decide +kernel
theorem dX4_either_5 : decode cX4_either 5 = .ok (.ifCond .ne 5, 3) := by decide +kernel
theorem dX4_either_8 : decode cX4_either 8 = .ok (.iconst 0, 1) := by decide +kernel
theorem dX4_either_9 : decode cX4_either 9 = .ok (.ireturn, 1) := by decide +kernel
theorem dX4_either_10 : decode cX4_either 10 = .ok (.aload_n 0, 1) := by decide +kernel
theorem dX4_either_11 : decode cX4_either 11 = .ok (.getfield 31, 3) := by decide +kernel
theorem dX4_either_14 : decode cX4_either 14 = .ok (.aload_n 0, 1) := by decide +kernel
theorem dX4_either_15 : decode cX4_either 15 = .ok (.getfield 27, 3) := by decide +kernel
theorem dX4_either_18 : decode cX4_either 18 = .ok (.if_icmp .ge 31, 3) := by decide +kernel
theorem dX4_either_21 : decode cX4_either 21 = .ok (.aload_n 0, 1) := by decide +kernel
theorem dX4_either_22 : decode cX4_either 22 = .ok (.bipush 124, 2) := by decide +kernel
theorem dX4_either_24 : decode cX4_either 24 = .ok (.invokevirtual 53, 3) := by decide +kernel
theorem dX4_either_27 : decode cX4_either 27 = .ok (.ifCond .eq 22, 3) := by decide +kernel
theorem dX4_either_30 : decode cX4_either 30 = .ok (.aload_n 0, 1) := by decide +kernel
theorem dX4_either_31 : decode cX4_either 31 = .ok (.iload_n 1, 1) := by decide +kernel
theorem dX4_either_32 : decode cX4_either 32 = .ok (.invokevirtual 121, 3) := by decide +kernel
theorem dX4_either_35 : decode cX4_either 35 = .ok (.ifCond .ne 5, 3) := by decide +kernel
theorem dX4_either_38 : decode cX4_either 38 = .ok (.iconst 0, 1) := by decide +kernel
theorem dX4_either_39 : decode cX4_either 39 = .ok (.ireturn, 1) := by decide +kernel
theorem dX4_either_40 : decode cX4_either 40 = .ok (.aload_n 0, 1) := by decide +kernel
theorem dX4_either_41 : decode cX4_either 41 = .ok (.bipush (-3), 2) := by decide +kernel
theorem dX4_either_43 : decode cX4_either 43 = .ok (.invokevirtual 124, 3) := by decide +kernel
theorem dX4_either_46 : decode cX4_either 46 = .ok (.goto (-36), 3) := by decide +kernel
theorem dX4_either_49 : decode cX4_either 49 = .ok (.iconst 1, 1) := by decide +kernel
theorem dX4_either_50 : decode cX4_either 50 = .ok (.ireturn, 1) := by decide +kernel
theorem dX4_both_0 : decode cX4_both 0 = .ok (.aload_n 0, 1) := by decide +kernel
theorem dX4_both_1 : decode cX4_both 1 = .ok (.iload_n 1, 1) := by decide +kernel
theorem dX4_both_2 : decode cX4_both 2 = .ok (.invokevirtual 128, 3) := by decide +kernel
theorem dX4_both_5 : decode cX4_both 5 = .ok (.ifCond .ne 5, 3) := by decide +kernel
theorem dX4_both_8 : decode cX4_both 8 = .ok (.iconst 0, 1) := by decide +kernel
theorem dX4_both_9 : decode cX4_both 9 = .ok (.ireturn, 1) := by decide +kernel
theorem dX4_both_10 : decode cX4_both 10 = .ok (.aload_n 0, 1) := by decide +kernel
theorem dX4_both_11 : decode cX4_both 11 = .ok (.getfield 31, 3) := by decide +kernel
theorem dX4_both_14 : decode cX4_both 14 = .ok (.aload_n 0, 1) := by decide +kernel
theorem dX4_both_15 : decode cX4_both 15 = .ok (.getfield 27, 3) := by decide +kernel
theorem dX4_both_18 : decode cX4_both 18 = .ok (.if_icmp .ge 31, 3) := by decide +kernel
theorem dX4_both_21 : decode cX4_both 21 = .ok (.aload_n 0, 1) := by decide +kernel
theorem dX4_both_22 : decode cX4_both 22 = .ok (.bipush 38, 2) := by decide +kernel
theorem dX4_both_24 : decode cX4_both 24 = .ok (.invokevirtual 53, 3) := by decide +kernel
theorem dX4_both_27 : decode cX4_both 27 = .ok (.ifCond .eq 22, 3) := by decide +kernel
theorem dX4_both_30 : decode cX4_both 30 = .ok (.aload_n 0, 1) := by decide +kernel
theorem dX4_both_31 : decode cX4_both 31 = .ok (.iload_n 1, 1) := by decide +kernel
theorem dX4_both_32 : decode cX4_both 32 = .ok (.invokevirtual 128, 3) := by decide +kernel
theorem dX4_both_35 : decode cX4_both 35 = .ok (.ifCond .ne 5, 3) := by decide +kernel
theorem dX4_both_38 : decode cX4_both 38 = .ok (.iconst 0, 1) := by decide +kernel
theorem dX4_both_39 : decode cX4_both 39 = .ok (.ireturn, 1) := by decide +kernel
theorem dX4_both_40 : decode cX4_both 40 = .ok (.aload_n 0, 1) := by decide +kernel
theorem dX4_both_41 : decode cX4_both 41 = .ok (.bipush (-2), 2) := by decide +kernel
theorem dX4_both_43 : decode cX4_both 43 = .ok (.invokevirtual 124, 3) := by decide +kernel
theorem dX4_both_46 : decode cX4_both 46 = .ok (.goto (-36), 3) := by decide +kernel
theorem dX4_both_49 : decode cX4_both 49 = .ok (.iconst 1, 1) := by decide +kernel
theorem dX4_both_50 : decode cX4_both 50 = .ok (.ireturn, 1) := by decide +kernel
theorem dX4_factor_0 : decode cX4_factor 0 = .ok (.aload_n 0, 1) := by decide +kernel
theorem dX4_factor_1 : decode cX4_factor 1 = .ok (.bipush 33, 2) := by decide +kernel
theorem dX4_factor_3 : decode cX4_factor 3 = .ok (.invokevirtual 71, 3) := by decide +kernel
theorem dX4_factor_6 : decode cX4_factor 6 = .ok (.ifCond .ne 12, 3) := by decide +kernel
theorem dX4_factor_9 : decode cX4_factor 9 = .ok (.aload_n 0, 1) := by decide +kernel
theorem dX4_factor_10 : decode cX4_factor 10 = .ok (.bipush 40, 2) := by decide +kernel
theorem dX4_factor_12 : decode cX4_factor 12 = .ok (.invokevirtual 71, 3) := by decide +kernel
theorem dX4_factor_15 : decode cX4_factor 15 = .ok (.ifCond .eq 7, 3) := by decide +kernel
theorem dX4_factor_18 : decode cX4_factor 18 = .ok (.iconst 1, 1) := by decide +kernel
theorem dX4_factor_19 : decode cX4_factor 19 = .ok (.goto 4, 3) := by decide +kernel
theorem dX4_factor_22 : decode cX4_factor 22 = .ok (.iconst 0, 1) := by decide +kernel
theorem dX4_factor_23 : decode cX4_factor 23 = .ok (.istore_n 2, 1) := by decide +kernel
theorem dX4_factor_24 : decode cX4_factor 24 = .ok (.iload_n 2, 1) := by decide +kernel
theorem dX4_factor_25 : decode cX4_factor 25 = .ok (.ifCond .ne 8, 3) := by decide +kernel
theorem dX4_factor_28 : decode cX4_factor 28 = .ok (.aload_n 0, 1) := by decide +kernel
theorem dX4_factor_29 : decode cX4_factor 29 = .ok (.invokevirtual 131, 3) := by decide +kernel
theorem dX4_factor_32 : decode cX4_factor 32 = .ok (.ireturn, 1) := by decide +kernel
theorem dX4_factor_33 : decode cX4_factor 33 = .ok (.iload_n 1, 1) := by decide +kernel
theorem dX4_factor_34 : decode cX4_factor 34 = .ok (.iconst 5, 1) := by decide +kernel
theorem dX4_factor_35 : decode cX4_factor 35 = .ok (.if_icmp .lt 5, 3) := by decide +kernel
theorem dX4_factor_38 : decode cX4_factor 38 = .ok (.iconst 0, 1) := by decide +kernel
theorem dX4_factor_39 : decode cX4_factor 39 = .ok (.ireturn, 1) := by decide +kernel
theorem dX4_factor_40 : decode cX4_factor 40 = .ok (.aload_n 0, 1) := by decide +kernel
theorem dX4_factor_41 : decode cX4_factor 41 = .ok (.bipush 40, 2) := by decide +kernel
theorem dX4_factor_43 : decode cX4_factor 43 = .ok (.invokevirtual 53, 3) := by decide +kernel
theorem dX4_factor_46 : decode cX4_factor 46 = .ok (.ifCond .eq 28, 3) := by decide +kernel
theorem dX4_factor_49 : decode cX4_factor 49 = .ok (.aload_n 0, 1) := by decide +kernel
theorem dX4_factor_50 : decode cX4_factor 50 = .ok (.iload_n 1, 1) := by decide +kernel
theorem dX4_factor_51 : decode cX4_factor 51 = .ok (.iconst 1, 1) := by decide +kernel
theorem dX4_factor_52 : decode cX4_factor 52 = .ok (.iadd, 1) := by decide +kernel
theorem dX4_factor_53 : decode cX4_factor 53 = .ok (.invokevirtual 117, 3) := by decide +kernel
theorem dX4_factor_56 : decode cX4_factor 56 = .ok (.ifCond .eq 16, 3) := by decide +kernel
theorem dX4_factor_59 : decode cX4_factor 59 = .ok (.aload_n 0, 1) := by decide +kernel
theorem dX4_factor_60 : decode cX4_factor 60 = .ok (.bipush 41, 2) := by decide +kernel
theorem dX4_factor_62 : decode cX4_factor 62 = .ok (.invokevirtual 53, 3) := by decide +kernel
theorem dX4_factor_65 : decode cX4_factor 65 = .ok (.ifCond .eq 7, 3) := by decide +kernel
theorem dX4_factor_68 : decode cX4_factor 68 = .ok (.iconst 1, 1) := by decide +kernel
theorem dX4_factor_69 : decode cX4_factor 69 = .ok (.goto 4, 3) := by decide +kernel
theorem dX4_factor_72 : decode cX4_factor 72 = .ok (.iconst 0, 1) := by decide +kernel
theorem dX4_factor_73 : decode cX4_factor 73 = .ok (.ireturn, 1) := by decide +kernel
theorem dX4_factor_74 : decode cX4_factor 74 = .ok (.aload_n 0, 1) := by decide +kernel
theorem dX4_factor_75 : decode cX4_factor 75 = .ok (.dup, 1) := by decide +kernel
theorem dX4_factor_76 : decode cX4_factor 76 = .ok (.getfield 31, 3) := by decide +kernel
theorem dX4_factor_79 : decode cX4_factor 79 = .ok (.iconst 1, 1) := by decide +kernel
theorem dX4_factor_80 : decode cX4_factor 80 = .ok (.iadd, 1) := by decide +kernel
theorem dX4_factor_81 : decode cX4_factor 81 = .ok (.putfield 31, 3) := by decide +kernel
theorem dX4_factor_84 : decode cX4_factor 84 = .ok (.aload_n 0, 1) := by decide +kernel
theorem dX4_factor_85 : decode cX4_factor 85 = .ok (.iload_n 1, 1) := by decide +kernel
theorem dX4_factor_86 : decode cX4_factor 86 = .ok (.iconst 1, 1) := by decide +kernel
theorem dX4_factor_87 : decode cX4_factor 87 = .ok (.iadd, 1) := by decide +kernel
theorem dX4_factor_88 : decode cX4_factor 88 = .ok (.invokevirtual 128, 3) := by decide +kernel
theorem dX4_factor_91 : decode cX4_factor 91 = .ok (.ifCond .ne 5, 3) := by decide +kernel
theorem dX4_factor_94 : decode cX4_factor 94 = .ok (.iconst 0, 1) := by decide +kernel
theorem dX4_factor_95 : decode cX4_factor 95 = .ok (.ireturn, 1) := by decide +kernel
theorem dX4_factor_96 : decode cX4_factor 96 = .ok (.aload_n 0, 1) := by decide +kernel
theorem dX4_factor_97 : decode cX4_factor 97 = .ok (.iconst (-1), 1) := by decide +kernel
theorem dX4_factor_98 : decode cX4_factor 98 = .ok (.invokevirtual 124, 3) := by decide +kernel
theorem dX4_factor_101 : decode cX4_factor 101 = .ok (.iconst 1, 1) := by decide +kernel
theorem dX4_factor_102 : decode cX4_factor 102 = .ok (.ireturn, 1) := by decide +kernel
theorem dX4_testing_0 : decode cX4_testing 0 = .ok (.aload_n 0, 1) := by decide +kernel
theorem dX4_testing_1 : decode cX4_testing 1 = .ok (.ldc 134, 2) := by decide +kernel
theorem dX4_testing_3 : decode cX4_testing 3 = .ok (.invokevirtual 89, 3) := by decide +kernel
theorem dX4_testing_6 : decode cX4_testing 6 = .ok (.istore_n 1, 1) := by decide +kernel
theorem dX4_testing_7 : decode cX4_testing 7 = .ok (.iload_n 1, 1) := by decide +kernel
theorem dX4_testing_8 : decode cX4_testing 8 = .ok (.ifCond .ge 5, 3) := by decide +kernel
theorem dX4_testing_11 : decode cX4_testing 11 = .ok (.iconst 0, 1) := by decide +kernel
theorem dX4_testing_12 : decode cX4_testing 12 = .ok (.ireturn, 1) := by decide +kernel
theorem dX4_testing_13 : decode cX4_testing 13 = .ok (.aload_n 0, 1) := by decide +kernel
theorem dX4_testing_14 : decode cX4_testing 14 = .ok (.ldc 136, 2) := by decide +kernel
theorem dX4_testing_16 : decode cX4_testing 16 = .ok (.invokevirtual 89, 3) := by decide +kernel
theorem dX4_testing_19 : decode cX4_testing 19 = .ok (.istore_n 2, 1) := by decide +kernel
theorem dX4_testing_20 : decode cX4_testing 20 = .ok (.iload_n 2, 1) := by decide +kernel
theorem dX4_testing_21 : decode cX4_testing 21 = .ok (.ifCond .ge 5, 3) := by decide +kernel
theorem dX4_testing_24 : decode cX4_testing 24 = .ok (.iconst 0, 1) := by decide +kernel
theorem dX4_testing_25 : decode cX4_testing 25 = .ok (.ireturn, 1) := by decide +kernel
theorem dX4_testing_26 : decode cX4_testing 26 = .ok (.aload_n 0, 1) := by decide +kernel
theorem dX4_testing_27 : decode cX4_testing 27 = .ok (.invokevirtual 110, 3) := by decide +kernel
theorem dX4_testing_30 : decode cX4_testing 30 = .ok (.istore_n 3, 1) := by decide +kernel
theorem dX4_testing_31 : decode cX4_testing 31 = .ok (.iload_n 3, 1) := by decide +kernel
theorem dX4_testing_32 : decode cX4_testing 32 = .ok (.ifCond .ge 5, 3) := by decide +kernel
theorem dX4_testing_35 : decode cX4_testing 35 = .ok (.iconst 0, 1) := by decide +kernel
theorem dX4_testing_36 : decode cX4_testing 36 = .ok (.ireturn, 1) := by decide +kernel
theorem dX4_testing_37 : decode cX4_testing 37 = .ok (.aload_n 0, 1) := by decide +kernel
theorem dX4_testing_38 : decode cX4_testing 38 = .ok (.iload_n 1, 1) := by decide +kernel
theorem dX4_testing_39 : decode cX4_testing 39 = .ok (.iload_n 2, 1) := by decide +kernel
theorem dX4_testing_40 : decode cX4_testing 40 = .ok (.iload_n 3, 1) := by decide +kernel
theorem dX4_testing_41 : decode cX4_testing 41 = .ok (.invokestatic 138, 3) := by decide +kernel
theorem dX4_testing_44 : decode cX4_testing 44 = .ok (.invokevirtual 124, 3) := by decide +kernel
theorem dX4_testing_47 : decode cX4_testing 47 = .ok (.iconst 1, 1) := by decide +kernel
theorem dX4_testing_48 : decode cX4_testing 48 = .ok (.ireturn, 1) := by decide +kernel
theorem dX4_emit_0 : decode cX4_emit 0 = .ok (.aload_n 0, 1) := by decide +kernel
theorem dX4_emit_1 : decode cX4_emit 1 = .ok (.getfield 34, 3) := by decide +kernel
theorem dX4_emit_4 : decode cX4_emit 4 = .ok (.aload_n 0, 1) := by decide +kernel
theorem dX4_emit_5 : decode cX4_emit 5 = .ok (.getfield 15, 3) := by decide +kernel
theorem dX4_emit_8 : decode cX4_emit 8 = .ok (.arraylength, 1) := by decide +kernel
theorem dX4_emit_9 : decode cX4_emit 9 = .ok (.if_icmp .ge 23, 3) := by decide +kernel
theorem dX4_emit_12 : decode cX4_emit 12 = .ok (.aload_n 0, 1) := by decide +kernel
theorem dX4_emit_13 : decode cX4_emit 13 = .ok (.getfield 15, 3) := by decide +kernel
theorem dX4_emit_16 : decode cX4_emit 16 = .ok (.aload_n 0, 1) := by decide +kernel
theorem dX4_emit_17 : decode cX4_emit 17 = .ok (.getfield 34, 3) := by decide +kernel
theorem dX4_emit_20 : decode cX4_emit 20 = .ok (.iload_n 1, 1) := by decide +kernel
theorem dX4_emit_21 : decode cX4_emit 21 = .ok (.iastore, 1) := by decide +kernel
theorem dX4_emit_22 : decode cX4_emit 22 = .ok (.aload_n 0, 1) := by decide +kernel
theorem dX4_emit_23 : decode cX4_emit 23 = .ok (.dup, 1) := by decide +kernel
theorem dX4_emit_24 : decode cX4_emit 24 = .ok (.getfield 34, 3) := by decide +kernel
theorem dX4_emit_27 : decode cX4_emit 27 = .ok (.iconst 1, 1) := by decide +kernel
theorem dX4_emit_28 : decode cX4_emit 28 = .ok (.iadd, 1) := by decide +kernel
theorem dX4_emit_29 : decode cX4_emit 29 = .ok (.putfield 34, 3) := by decide +kernel
theorem dX4_emit_32 : decode cX4_emit 32 = .ok (.return_, 1) := by decide +kernel
theorem dX5_init_0 : decode cX5_init 0 = .ok (.aload_n 0, 1) := by decide +kernel
theorem dX5_init_1 : decode cX5_init 1 = .ok (.invokespecial 3, 3) := by decide +kernel
theorem dX5_init_4 : decode cX5_init 4 = .ok (.aload_n 0, 1) := by decide +kernel
theorem dX5_init_5 : decode cX5_init 5 = .ok (.iconst 3, 1) := by decide +kernel
theorem dX5_init_6 : decode cX5_init 6 = .ok (.newarray .int, 2) := by decide +kernel
theorem dX5_init_8 : decode cX5_init 8 = .ok (.putfield 9, 3) := by decide +kernel
theorem dX5_init_11 : decode cX5_init 11 = .ok (.aload_n 0, 1) := by decide +kernel
theorem dX5_init_12 : decode cX5_init 12 = .ok (.iconst 3, 1) := by decide +kernel
theorem dX5_init_13 : decode cX5_init 13 = .ok (.newarray .int, 2) := by decide +kernel
theorem dX5_init_15 : decode cX5_init 15 = .ok (.putfield 15, 3) := by decide +kernel
theorem dX5_init_18 : decode cX5_init 18 = .ok (.aload_n 0, 1) := by decide +kernel
theorem dX5_init_19 : decode cX5_init 19 = .ok (.bipush 100, 2) := by decide +kernel
theorem dX5_init_21 : decode cX5_init 21 = .ok (.newarray .int, 2) := by decide +kernel
theorem dX5_init_23 : decode cX5_init 23 = .ok (.putfield 18, 3) := by decide +kernel
theorem dX5_init_26 : decode cX5_init 26 = .ok (.aload_n 0, 1) := by decide +kernel
theorem dX5_init_27 : decode cX5_init 27 = .ok (.bipush 8, 2) := by decide +kernel
theorem dX5_init_29 : decode cX5_init 29 = .ok (.anewarray 21, 3) := by decide +kernel
theorem dX5_init_32 : decode cX5_init 32 = .ok (.putfield 23, 3) := by decide +kernel
theorem dX5_init_35 : decode cX5_init 35 = .ok (.aload_n 0, 1) := by decide +kernel
theorem dX5_init_36 : decode cX5_init 36 = .ok (.bipush 12, 2) := by decide +kernel
theorem dX5_init_38 : decode cX5_init 38 = .ok (.newarray .int, 2) := by decide +kernel
theorem dX5_init_40 : decode cX5_init 40 = .ok (.putfield 27, 3) := by decide +kernel
theorem dX5_init_43 : decode cX5_init 43 = .ok (.aload_n 0, 1) := by decide +kernel
theorem dX5_init_44 : decode cX5_init 44 = .ok (.aload_n 1, 1) := by decide +kernel
theorem dX5_init_45 : decode cX5_init 45 = .ok (.putfield 30, 3) := by decide +kernel
theorem dX5_init_48 : decode cX5_init 48 = .ok (.return_, 1) := by decide +kernel
theorem dX5_copy_0 : decode cX5_copy 0 = .ok (.aload_n 1, 1) := by decide +kernel
theorem dX5_copy_1 : decode cX5_copy 1 = .ok (.getfield 9, 3) := by decide +kernel
theorem dX5_copy_4 : decode cX5_copy 4 = .ok (.iconst 0, 1) := by decide +kernel
theorem dX5_copy_5 : decode cX5_copy 5 = .ok (.aload_n 0, 1) := by decide +kernel
theorem dX5_copy_6 : decode cX5_copy 6 = .ok (.getfield 9, 3) := by decide +kernel
theorem dX5_copy_9 : decode cX5_copy 9 = .ok (.iconst 0, 1) := by decide +kernel
theorem dX5_copy_10 : decode cX5_copy 10 = .ok (.iconst 3, 1) := by decide +kernel
theorem dX5_copy_11 : decode cX5_copy 11 = .ok (.invokestatic 34, 3) := by decide +kernel
theorem dX5_copy_14 : decode cX5_copy 14 = .ok (.aload_n 1, 1) := by decide +kernel
theorem dX5_copy_15 : decode cX5_copy 15 = .ok (.getfield 15, 3) := by decide +kernel
theorem dX5_copy_18 : decode cX5_copy 18 = .ok (.iconst 0, 1) := by decide +kernel
theorem dX5_copy_19 : decode cX5_copy 19 = .ok (.aload_n 0, 1) := by decide +kernel
theorem dX5_copy_20 : decode cX5_copy 20 = .ok (.getfield 15, 3) := by decide +kernel
theorem dX5_copy_23 : decode cX5_copy 23 = .ok (.iconst 0, 1) := by decide +kernel
theorem dX5_copy_24 : decode cX5_copy 24 = .ok (.iconst 3, 1) := by decide +kernel
theorem dX5_copy_25 : decode cX5_copy 25 = .ok (.invokestatic 34, 3) := by decide +kernel
theorem dX5_copy_28 : decode cX5_copy 28 = .ok (.aload_n 1, 1) := by decide +kernel
theorem dX5_copy_29 : decode cX5_copy 29 = .ok (.getfield 18, 3) := by decide +kernel
theorem dX5_copy_32 : decode cX5_copy 32 = .ok (.iconst 0, 1) := by decide +kernel
theorem dX5_copy_33 : decode cX5_copy 33 = .ok (.aload_n 0, 1) := by decide +kernel
theorem dX5_copy_34 : decode cX5_copy 34 = .ok (.getfield 18, 3) := by decide +kernel
theorem dX5_copy_37 : decode cX5_copy 37 = .ok (.iconst 0, 1) := by decide +kernel
theorem dX5_copy_38 : decode cX5_copy 38 = .ok (.bipush 100, 2) := by decide +kernel
theorem dX5_copy_40 : decode cX5_copy 40 = .ok (.invokestatic 34, 3) := by decide +kernel
theorem dX5_copy_43 : decode cX5_copy 43 = .ok (.aload_n 1, 1) := by decide +kernel
theorem dX5_copy_44 : decode cX5_copy 44 = .ok (.getfield 27, 3) := by decide +kernel
theorem dX5_copy_47 : decode cX5_copy 47 = .ok (.iconst 0, 1) := by decide +kernel
theorem dX5_copy_48 : decode cX5_copy 48 = .ok (.aload_n 0, 1) := by decide +kernel
theorem dX5_copy_49 : decode cX5_copy 49 = .ok (.getfield 27, 3) := by decide +kernel
theorem dX5_copy_52 : decode cX5_copy 52 = .ok (.iconst 0, 1) := by decide +kernel
theorem dX5_copy_53 : decode cX5_copy 53 = .ok (.bipush 12, 2) := by decide +kernel
theorem dX5_copy_55 : decode cX5_copy 55 = .ok (.invokestatic 34, 3) := by decide +kernel
theorem dX5_copy_58 : decode cX5_copy 58 = .ok (.iconst 0, 1) := by decide +kernel
theorem dX5_copy_59 : decode cX5_copy 59 = .ok (.istore_n 2, 1) := by decide +kernel
theorem dX5_copy_60 : decode cX5_copy 60 = .ok (.iload_n 2, 1) := by decide +kernel
theorem dX5_copy_61 : decode cX5_copy 61 = .ok (.bipush 8, 2) := by decide +kernel
theorem dX5_copy_63 : decode cX5_copy 63 = .ok (.if_icmp .ge 21, 3) := by decide +kernel
theorem dX5_copy_66 : decode cX5_copy 66 = .ok (.aload_n 0, 1) := by decide +kernel
theorem dX5_copy_67 : decode cX5_copy 67 = .ok (.getfield 23, 3) := by decide +kernel
theorem dX5_copy_70 : decode cX5_copy 70 = .ok (.iload_n 2, 1) := by decide +kernel
theorem dX5_copy_71 : decode cX5_copy 71 = .ok (.aload_n 1, 1) := by decide +kernel
theorem dX5_copy_72 : decode cX5_copy 72 = .ok (.getfield 23, 3) := by decide +kernel
theorem dX5_copy_75 : decode cX5_copy 75 = .ok (.iload_n 2, 1) := by decide +kernel
theorem dX5_copy_76 : decode cX5_copy 76 = .ok (.aaload, 1) := by decide +kernel
theorem dX5_copy_77 : decode cX5_copy 77 = .ok (.aastore, 1) := by decide +kernel
theorem dX5_copy_78 : decode cX5_copy 78 = .ok (.iinc 2 1, 3) := by decide +kernel
theorem dX5_copy_81 : decode cX5_copy 81 = .ok (.goto (-21), 3) := by decide +kernel
theorem dX5_copy_84 : decode cX5_copy 84 = .ok (.aload_n 0, 1) := by decide +kernel
theorem dX5_copy_85 : decode cX5_copy 85 = .ok (.aload_n 1, 1) := by decide +kernel
theorem dX5_copy_86 : decode cX5_copy 86 = .ok (.getfield 40, 3) := by decide +kernel
theorem dX5_copy_89 : decode cX5_copy 89 = .ok (.putfield 40, 3) := by decide +kernel
theorem dX5_copy_92 : decode cX5_copy 92 = .ok (.aload_n 0, 1) := by decide +kernel
theorem dX5_copy_93 : decode cX5_copy 93 = .ok (.aload_n 1, 1) := by decide +kernel
theorem dX5_copy_94 : decode cX5_copy 94 = .ok (.getfield 44, 3) := by decide +kernel
theorem dX5_copy_97 : decode cX5_copy 97 = .ok (.putfield 44, 3) := by decide +kernel
theorem dX5_copy_100 : decode cX5_copy 100 = .ok (.aload_n 0, 1) := by decide +kernel
theorem dX5_copy_101 : decode cX5_copy 101 = .ok (.aload_n 1, 1) := by decide +kernel
theorem dX5_copy_102 : decode cX5_copy 102 = .ok (.getfield 47, 3) := by decide +kernel
theorem dX5_copy_105 : decode cX5_copy 105 = .ok (.putfield 47, 3) := by decide +kernel
theorem dX5_copy_108 : decode cX5_copy 108 = .ok (.aload_n 0, 1) := by decide +kernel
theorem dX5_copy_109 : decode cX5_copy 109 = .ok (.aload_n 1, 1) := by decide +kernel
theorem dX5_copy_110 : decode cX5_copy 110 = .ok (.getfield 30, 3) := by decide +kernel
theorem dX5_copy_113 : decode cX5_copy 113 = .ok (.putfield 30, 3) := by decide +kernel
theorem dX5_copy_116 : decode cX5_copy 116 = .ok (.aload_n 0, 1) := by decide +kernel
theorem dX5_copy_117 : decode cX5_copy 117 = .ok (.aload_n 1, 1) := by decide +kernel
theorem dX5_copy_118 : decode cX5_copy 118 = .ok (.getfield 50, 3) := by decide +kernel
theorem dX5_copy_121 : decode cX5_copy 121 = .ok (.putfield 50, 3) := by decide +kernel
theorem dX5_copy_124 : decode cX5_copy 124 = .ok (.aload_n 0, 1) := by decide +kernel
theorem dX5_copy_125 : decode cX5_copy 125 = .ok (.aload_n 1, 1) := by decide +kernel
theorem dX5_copy_126 : decode cX5_copy 126 = .ok (.getfield 53, 3) := by decide +kernel
theorem dX5_copy_129 : decode cX5_copy 129 = .ok (.putfield 53, 3) := by decide +kernel
theorem dX5_copy_132 : decode cX5_copy 132 = .ok (.aload_n 0, 1) := by decide +kernel
theorem dX5_copy_133 : decode cX5_copy 133 = .ok (.aload_n 1, 1) := by decide +kernel
theorem dX5_copy_134 : decode cX5_copy 134 = .ok (.getfield 56, 3) := by decide +kernel
theorem dX5_copy_137 : decode cX5_copy 137 = .ok (.putfield 56, 3) := by decide +kernel
theorem dX5_copy_140 : decode cX5_copy 140 = .ok (.return_, 1) := by decide +kernel
theorem dX6_init_0 : decode cX6_init 0 = .ok (.aload_n 0, 1) := by decide +kernel
theorem dX6_init_1 : decode cX6_init 1 = .ok (.iload_n 1, 1) := by decide +kernel
theorem dX6_init_2 : decode cX6_init 2 = .ok (.iload_n 2, 1) := by decide +kernel
theorem dX6_init_3 : decode cX6_init 3 = .ok (.iload_n 3, 1) := by decide +kernel
theorem dX6_init_4 : decode cX6_init 4 = .ok (.invokespecial 3, 3) := by decide +kernel
theorem dX6_init_7 : decode cX6_init 7 = .ok (.return_, 1) := by decide +kernel
theorem dX6_does_0 : decode cX6_does 0 = .ok (.aload_n 1, 1) := by decide +kernel
theorem dX6_does_1 : decode cX6_does 1 = .ok (.iload_n 2, 1) := by decide +kernel
theorem dX6_does_2 : decode cX6_does 2 = .ok (.iload_n 3, 1) := by decide +kernel
theorem dX6_does_3 : decode cX6_does 3 = .ok (.invokevirtual 9, 3) := by decide +kernel
theorem dX6_does_6 : decode cX6_does 6 = .ok (.istore 4, 2) := by decide +kernel
theorem dX6_does_8 : decode cX6_does 8 = .ok (.iconst 0, 1) := by decide +kernel
theorem dX6_does_9 : decode cX6_does 9 = .ok (.istore 5, 2) := by decide +kernel
theorem dX6_does_11 : decode cX6_does 11 = .ok (.iload 5, 2) := by decide +kernel
theorem dX6_does_13 : decode cX6_does 13 = .ok (.iconst 3, 1) := by decide +kernel
theorem dX6_does_14 : decode cX6_does 14 = .ok (.if_icmp .ge 26, 3) := by decide +kernel
theorem dX6_does_17 : decode cX6_does 17 = .ok (.iload 4, 2) := by decide +kernel
theorem dX6_does_19 : decode cX6_does 19 = .ok (.iload 5, 2) := by decide +kernel
theorem dX6_does_21 : decode cX6_does 21 = .ok (.iconst 2, 1) := by decide +kernel
theorem dX6_does_22 : decode cX6_does 22 = .ok (.imul, 1) := by decide +kernel
theorem dX6_does_23 : decode cX6_does 23 = .ok (.iconst 1, 1) := by decide +kernel
theorem dX6_does_24 : decode cX6_does 24 = .ok (.iadd, 1) := by decide +kernel
theorem dX6_does_25 : decode cX6_does 25 = .ok (.invokestatic 15, 3) := by decide +kernel
theorem dX6_does_28 : decode cX6_does 28 = .ok (.ifCond .eq 6, 3) := by decide +kernel
theorem dX6_does_31 : decode cX6_does 31 = .ok (.iload 5, 2) := by decide +kernel
theorem dX6_does_33 : decode cX6_does 33 = .ok (.ireturn, 1) := by decide +kernel
theorem dX6_does_34 : decode cX6_does 34 = .ok (.iinc 5 1, 3) := by decide +kernel
theorem dX6_does_37 : decode cX6_does 37 = .ok (.goto (-26), 3) := by decide +kernel
theorem dX6_does_40 : decode cX6_does 40 = .ok (.aload_n 0, 1) := by decide +kernel
theorem dX6_does_41 : decode cX6_does 41 = .ok (.aload_n 1, 1) := by decide +kernel
theorem dX6_does_42 : decode cX6_does 42 = .ok (.iload_n 2, 1) := by decide +kernel
theorem dX6_does_43 : decode cX6_does 43 = .ok (.iload_n 3, 1) := by decide +kernel
theorem dX6_does_44 : decode cX6_does 44 = .ok (.invokespecial 19, 3) := by decide +kernel
theorem dX6_does_47 : decode cX6_does 47 = .ok (.ireturn, 1) := by decide +kernel
theorem dX6_tells_0 : decode cX6_tells 0 = .ok (.bipush 41, 2) := by decide +kernel
theorem dX6_tells_2 : decode cX6_tells 2 = .ok (.aload_n 2, 1) := by decide +kernel
theorem dX6_tells_3 : decode cX6_tells 3 = .ok (.invokestatic 23, 3) := by decide +kernel
theorem dX6_tells_6 : decode cX6_tells 6 = .ok (.aload_n 0, 1) := by decide +kernel
theorem dX6_tells_7 : decode cX6_tells 7 = .ok (.iload_n 1, 1) := by decide +kernel
theorem dX6_tells_8 : decode cX6_tells 8 = .ok (.iconst 1, 1) := by decide +kernel
theorem dX6_tells_9 : decode cX6_tells 9 = .ok (.isub, 1) := by decide +kernel
theorem dX6_tells_10 : decode cX6_tells 10 = .ok (.aload_n 2, 1) := by decide +kernel
theorem dX6_tells_11 : decode cX6_tells 11 = .ok (.invokespecial 29, 3) := by decide +kernel
theorem dX6_tells_14 : decode cX6_tells 14 = .ok (.aload_n 0, 1) := by decide +kernel
theorem dX6_tells_15 : decode cX6_tells 15 = .ok (.iconst 2, 1) := by decide +kernel
theorem dX6_tells_16 : decode cX6_tells 16 = .ok (.aload_n 2, 1) := by decide +kernel
theorem dX6_tells_17 : decode cX6_tells 17 = .ok (.invokevirtual 33, 3) := by decide +kernel
theorem dX6_tells_20 : decode cX6_tells 20 = .ok (.iadd, 1) := by decide +kernel
theorem dX6_tells_21 : decode cX6_tells 21 = .ok (.ireturn, 1) := by decide +kernel
theorem dX7_init_0 : decode cX7_init 0 = .ok (.aload_n 0, 1) := by decide +kernel
theorem dX7_init_1 : decode cX7_init 1 = .ok (.bipush 6, 2) := by decide +kernel
theorem dX7_init_3 : decode cX7_init 3 = .ok (.iload_n 1, 1) := by decide +kernel
theorem dX7_init_4 : decode cX7_init 4 = .ok (.iload_n 2, 1) := by decide +kernel
theorem dX7_init_5 : decode cX7_init 5 = .ok (.invokespecial 3, 3) := by decide +kernel
theorem dX7_init_8 : decode cX7_init 8 = .ok (.aload_n 0, 1) := by decide +kernel
theorem dX7_init_9 : decode cX7_init 9 = .ok (.iload_n 3, 1) := by decide +kernel
theorem dX7_init_10 : decode cX7_init 10 = .ok (.putfield 9, 3) := by decide +kernel
theorem dX7_init_13 : decode cX7_init 13 = .ok (.return_, 1) := by decide +kernel
theorem dX7_toldFor_0 : decode cX7_toldFor 0 = .ok (.aload_n 0, 1) := by decide +kernel
theorem dX7_toldFor_1 : decode cX7_toldFor 1 = .ok (.getfield 9, 3) := by decide +kernel
theorem dX7_toldFor_4 : decode cX7_toldFor 4 = .ok (.iconst 2, 1) := by decide +kernel
theorem dX7_toldFor_5 : decode cX7_toldFor 5 = .ok (.iload_n 1, 1) := by decide +kernel
theorem dX7_toldFor_6 : decode cX7_toldFor 6 = .ok (.imul, 1) := by decide +kernel
theorem dX7_toldFor_7 : decode cX7_toldFor 7 = .ok (.ishr, 1) := by decide +kernel
theorem dX7_toldFor_8 : decode cX7_toldFor 8 = .ok (.iconst 3, 1) := by decide +kernel
theorem dX7_toldFor_9 : decode cX7_toldFor 9 = .ok (.iand, 1) := by decide +kernel
theorem dX7_toldFor_10 : decode cX7_toldFor 10 = .ok (.ireturn, 1) := by decide +kernel
theorem dX7_telling_0 : decode cX7_telling 0 = .ok (.aload_n 0, 1) := by decide +kernel
theorem dX7_telling_1 : decode cX7_telling 1 = .ok (.getfield 9, 3) := by decide +kernel
theorem dX7_telling_4 : decode cX7_telling 4 = .ok (.iconst 3, 1) := by decide +kernel
theorem dX7_telling_5 : decode cX7_telling 5 = .ok (.iconst 2, 1) := by decide +kernel
theorem dX7_telling_6 : decode cX7_telling 6 = .ok (.iload_n 1, 1) := by decide +kernel
theorem dX7_telling_7 : decode cX7_telling 7 = .ok (.imul, 1) := by decide +kernel
theorem dX7_telling_8 : decode cX7_telling 8 = .ok (.ishl, 1) := by decide +kernel
theorem dX7_telling_9 : decode cX7_telling 9 = .ok (.iconst (-1), 1) := by decide +kernel
theorem dX7_telling_10 : decode cX7_telling 10 = .ok (.ixor, 1) := by decide +kernel
theorem dX7_telling_11 : decode cX7_telling 11 = .ok (.iand, 1) := by decide +kernel
theorem dX7_telling_12 : decode cX7_telling 12 = .ok (.istore_n 3, 1) := by decide +kernel
theorem dX7_telling_13 : decode cX7_telling 13 = .ok (.new 10, 3) := by decide +kernel
theorem dX7_telling_16 : decode cX7_telling 16 = .ok (.dup, 1) := by decide +kernel
theorem dX7_telling_17 : decode cX7_telling 17 = .ok (.aload_n 0, 1) := by decide +kernel
theorem dX7_telling_18 : decode cX7_telling 18 = .ok (.getfield 15, 3) := by decide +kernel
theorem dX7_telling_21 : decode cX7_telling 21 = .ok (.aload_n 0, 1) := by decide +kernel
theorem dX7_telling_22 : decode cX7_telling 22 = .ok (.getfield 18, 3) := by decide +kernel
theorem dX7_telling_25 : decode cX7_telling 25 = .ok (.iload_n 3, 1) := by decide +kernel
theorem dX7_telling_26 : decode cX7_telling 26 = .ok (.iload_n 2, 1) := by decide +kernel
theorem dX7_telling_27 : decode cX7_telling 27 = .ok (.iconst 2, 1) := by decide +kernel
theorem dX7_telling_28 : decode cX7_telling 28 = .ok (.iload_n 1, 1) := by decide +kernel
theorem dX7_telling_29 : decode cX7_telling 29 = .ok (.imul, 1) := by decide +kernel
theorem dX7_telling_30 : decode cX7_telling 30 = .ok (.ishl, 1) := by decide +kernel
theorem dX7_telling_31 : decode cX7_telling 31 = .ok (.ior, 1) := by decide +kernel
theorem dX7_telling_32 : decode cX7_telling 32 = .ok (.invokespecial 21, 3) := by decide +kernel
theorem dX7_telling_35 : decode cX7_telling 35 = .ok (.areturn, 1) := by decide +kernel
theorem dX7_does_0 : decode cX7_does 0 = .ok (.aload_n 0, 1) := by decide +kernel
theorem dX7_does_1 : decode cX7_does 1 = .ok (.iload_n 2, 1) := by decide +kernel
theorem dX7_does_2 : decode cX7_does 2 = .ok (.invokevirtual 22, 3) := by decide +kernel
theorem dX7_does_5 : decode cX7_does 5 = .ok (.istore 4, 2) := by decide +kernel
theorem dX7_does_7 : decode cX7_does 7 = .ok (.aload_n 1, 1) := by decide +kernel
theorem dX7_does_8 : decode cX7_does 8 = .ok (.iload_n 2, 1) := by decide +kernel
theorem dX7_does_9 : decode cX7_does 9 = .ok (.iload_n 3, 1) := by decide +kernel
theorem dX7_does_10 : decode cX7_does 10 = .ok (.invokevirtual 26, 3) := by decide +kernel
theorem dX7_does_13 : decode cX7_does 13 = .ok (.iload 4, 2) := by decide +kernel
theorem dX7_does_15 : decode cX7_does 15 = .ok (.invokestatic 32, 3) := by decide +kernel
theorem dX7_does_18 : decode cX7_does 18 = .ok (.ifCond .eq 6, 3) := by decide +kernel
theorem dX7_does_21 : decode cX7_does 21 = .ok (.iload 4, 2) := by decide +kernel
theorem dX7_does_23 : decode cX7_does 23 = .ok (.ireturn, 1) := by decide +kernel
theorem dX7_does_24 : decode cX7_does 24 = .ok (.aload_n 0, 1) := by decide +kernel
theorem dX7_does_25 : decode cX7_does 25 = .ok (.aload_n 1, 1) := by decide +kernel
theorem dX7_does_26 : decode cX7_does 26 = .ok (.iload_n 2, 1) := by decide +kernel
theorem dX7_does_27 : decode cX7_does 27 = .ok (.iload_n 3, 1) := by decide +kernel
theorem dX7_does_28 : decode cX7_does 28 = .ok (.invokespecial 36, 3) := by decide +kernel
theorem dX7_does_31 : decode cX7_does 31 = .ok (.ireturn, 1) := by decide +kernel
theorem dX7_cuts_0 : decode cX7_cuts 0 = .ok (.bipush 61, 2) := by decide +kernel
theorem dX7_cuts_2 : decode cX7_cuts 2 = .ok (.aload_n 2, 1) := by decide +kernel
theorem dX7_cuts_3 : decode cX7_cuts 3 = .ok (.invokestatic 40, 3) := by decide +kernel
theorem dX7_cuts_6 : decode cX7_cuts 6 = .ok (.aload_n 0, 1) := by decide +kernel
theorem dX7_cuts_7 : decode cX7_cuts 7 = .ok (.iload_n 1, 1) := by decide +kernel
theorem dX7_cuts_8 : decode cX7_cuts 8 = .ok (.aload_n 2, 1) := by decide +kernel
theorem dX7_cuts_9 : decode cX7_cuts 9 = .ok (.invokespecial 44, 3) := by decide +kernel
theorem dX7_cuts_12 : decode cX7_cuts 12 = .ok (.aload_n 0, 1) := by decide +kernel
theorem dX7_cuts_13 : decode cX7_cuts 13 = .ok (.getfield 18, 3) := by decide +kernel
theorem dX7_cuts_16 : decode cX7_cuts 16 = .ok (.iadd, 1) := by decide +kernel
theorem dX7_cuts_17 : decode cX7_cuts 17 = .ok (.ireturn, 1) := by decide +kernel
theorem dX8_init_0 : decode cX8_init 0 = .ok (.aload_n 0, 1) := by decide +kernel
theorem dX8_init_1 : decode cX8_init 1 = .ok (.invokespecial 3, 3) := by decide +kernel
theorem dX8_init_4 : decode cX8_init 4 = .ok (.aload_n 0, 1) := by decide +kernel
theorem dX8_init_5 : decode cX8_init 5 = .ok (.aload_n 1, 1) := by decide +kernel
theorem dX8_init_6 : decode cX8_init 6 = .ok (.putfield 9, 3) := by decide +kernel
theorem dX8_init_9 : decode cX8_init 9 = .ok (.aload_n 0, 1) := by decide +kernel
theorem dX8_init_10 : decode cX8_init 10 = .ok (.aload_n 2, 1) := by decide +kernel
theorem dX8_init_11 : decode cX8_init 11 = .ok (.putfield 15, 3) := by decide +kernel
theorem dX8_init_14 : decode cX8_init 14 = .ok (.aload_n 0, 1) := by decide +kernel
theorem dX8_init_15 : decode cX8_init 15 = .ok (.aload_n 3, 1) := by decide +kernel
theorem dX8_init_16 : decode cX8_init 16 = .ok (.putfield 18, 3) := by decide +kernel
theorem dX8_init_19 : decode cX8_init 19 = .ok (.aload_n 0, 1) := by decide +kernel
theorem dX8_init_20 : decode cX8_init 20 = .ok (.aload 4, 2) := by decide +kernel
theorem dX8_init_22 : decode cX8_init 22 = .ok (.putfield 21, 3) := by decide +kernel
theorem dX8_init_25 : decode cX8_init 25 = .ok (.aload_n 0, 1) := by decide +kernel
theorem dX8_init_26 : decode cX8_init 26 = .ok (.iload 5, 2) := by decide +kernel
theorem dX8_init_28 : decode cX8_init 28 = .ok (.putfield 24, 3) := by decide +kernel
theorem dX8_init_31 : decode cX8_init 31 = .ok (.return_, 1) := by decide +kernel
theorem dX8_gain_0 : decode cX8_gain 0 = .ok (.iload_n 1, 1) := by decide +kernel
theorem dX8_gain_1 : decode cX8_gain 1 = .ok (.ifCond .lt 8, 3) := by decide +kernel
theorem dX8_gain_4 : decode cX8_gain 4 = .ok (.iload_n 1, 1) := by decide +kernel
theorem dX8_gain_5 : decode cX8_gain 5 = .ok (.iconst 3, 1) := by decide +kernel
theorem dX8_gain_6 : decode cX8_gain 6 = .ok (.if_icmp .lt 5, 3) := by decide +kernel
theorem dX8_gain_9 : decode cX8_gain 9 = .ok (.iconst 0, 1) := by decide +kernel
theorem dX8_gain_10 : decode cX8_gain 10 = .ok (.ireturn, 1) := by decide +kernel
theorem dX8_gain_11 : decode cX8_gain 11 = .ok (.getstatic 28, 3) := by decide +kernel
theorem dX8_gain_14 : decode cX8_gain 14 = .ok (.iload_n 2, 1) := by decide +kernel
theorem dX8_gain_15 : decode cX8_gain 15 = .ok (.iaload, 1) := by decide +kernel
theorem dX8_gain_16 : decode cX8_gain 16 = .ok (.iload_n 1, 1) := by decide +kernel
theorem dX8_gain_17 : decode cX8_gain 17 = .ok (.iconst 2, 1) := by decide +kernel
theorem dX8_gain_18 : decode cX8_gain 18 = .ok (.imul, 1) := by decide +kernel
theorem dX8_gain_19 : decode cX8_gain 19 = .ok (.iconst 1, 1) := by decide +kernel
theorem dX8_gain_20 : decode cX8_gain 20 = .ok (.iadd, 1) := by decide +kernel
theorem dX8_gain_21 : decode cX8_gain 21 = .ok (.invokestatic 31, 3) := by decide +kernel
theorem dX8_gain_24 : decode cX8_gain 24 = .ok (.ifCond .eq 12, 3) := by decide +kernel
theorem dX8_gain_27 : decode cX8_gain 27 = .ok (.aload_n 0, 1) := by decide +kernel
theorem dX8_gain_28 : decode cX8_gain 28 = .ok (.getfield 21, 3) := by decide +kernel
theorem dX8_gain_31 : decode cX8_gain 31 = .ok (.iload_n 1, 1) := by decide +kernel
theorem dX8_gain_32 : decode cX8_gain 32 = .ok (.iaload, 1) := by decide +kernel
theorem dX8_gain_33 : decode cX8_gain 33 = .ok (.goto 4, 3) := by decide +kernel
theorem dX8_gain_36 : decode cX8_gain 36 = .ok (.iconst 0, 1) := by decide +kernel
theorem dX8_gain_37 : decode cX8_gain 37 = .ok (.ireturn, 1) := by decide +kernel
theorem dX8_opened_0 : decode cX8_opened 0 = .ok (.iconst 0, 1) := by decide +kernel
theorem dX8_opened_1 : decode cX8_opened 1 = .ok (.istore_n 2, 1) := by decide +kernel
theorem dX8_opened_2 : decode cX8_opened 2 = .ok (.iconst 0, 1) := by decide +kernel
theorem dX8_opened_3 : decode cX8_opened 3 = .ok (.istore_n 3, 1) := by decide +kernel
theorem dX8_opened_4 : decode cX8_opened 4 = .ok (.iconst 0, 1) := by decide +kernel
theorem dX8_opened_5 : decode cX8_opened 5 = .ok (.istore 4, 2) := by decide +kernel
theorem dX8_opened_7 : decode cX8_opened 7 = .ok (.iload 4, 2) := by decide +kernel
theorem dX8_opened_9 : decode cX8_opened 9 = .ok (.aload_n 0, 1) := by decide +kernel
theorem dX8_opened_10 : decode cX8_opened 10 = .ok (.getfield 15, 3) := by decide +kernel
theorem dX8_opened_13 : decode cX8_opened 13 = .ok (.arraylength, 1) := by decide +kernel
theorem dX8_opened_14 : decode cX8_opened 14 = .ok (.if_icmp .ge 70, 3) := by decide +kernel
theorem dX8_opened_17 : decode cX8_opened 17 = .ok (.iconst 0, 1) := by decide +kernel
theorem dX8_opened_18 : decode cX8_opened 18 = .ok (.istore 5, 2) := by decide +kernel
theorem dX8_opened_20 : decode cX8_opened 20 = .ok (.iload 5, 2) := by decide +kernel
theorem dX8_opened_22 : decode cX8_opened 22 = .ok (.iconst 2, 1) := by decide +kernel
theorem dX8_opened_23 : decode cX8_opened 23 = .ok (.if_icmp .ge 47, 3) := by decide +kernel
theorem dX8_opened_26 : decode cX8_opened 26 = .ok (.aload_n 1, 1) := by decide +kernel
theorem dX8_opened_27 : decode cX8_opened 27 = .ok (.iconst 1, 1) := by decide +kernel
theorem dX8_opened_28 : decode cX8_opened 28 = .ok (.iload 5, 2) := by decide +kernel
theorem dX8_opened_30 : decode cX8_opened 30 = .ok (.iastore, 1) := by decide +kernel
theorem dX8_opened_31 : decode cX8_opened 31 = .ok (.aload_n 0, 1) := by decide +kernel
theorem dX8_opened_32 : decode cX8_opened 32 = .ok (.iload_n 3, 1) := by decide +kernel
theorem dX8_opened_33 : decode cX8_opened 33 = .ok (.aload_n 0, 1) := by decide +kernel
theorem dX8_opened_34 : decode cX8_opened 34 = .ok (.getfield 18, 3) := by decide +kernel
theorem dX8_opened_37 : decode cX8_opened 37 = .ok (.iload 4, 2) := by decide +kernel
theorem dX8_opened_39 : decode cX8_opened 39 = .ok (.iaload, 1) := by decide +kernel
theorem dX8_opened_40 : decode cX8_opened 40 = .ok (.aload_n 1, 1) := by decide +kernel
theorem dX8_opened_41 : decode cX8_opened 41 = .ok (.invokevirtual 35, 3) := by decide +kernel
theorem dX8_opened_44 : decode cX8_opened 44 = .ok (.ifCond .eq 20, 3) := by decide +kernel
theorem dX8_opened_47 : decode cX8_opened 47 = .ok (.iload_n 2, 1) := by decide +kernel
theorem dX8_opened_48 : decode cX8_opened 48 = .ok (.iconst 1, 1) := by decide +kernel
theorem dX8_opened_49 : decode cX8_opened 49 = .ok (.aload_n 0, 1) := by decide +kernel
theorem dX8_opened_50 : decode cX8_opened 50 = .ok (.getfield 15, 3) := by decide +kernel
theorem dX8_opened_53 : decode cX8_opened 53 = .ok (.iload 4, 2) := by decide +kernel
theorem dX8_opened_55 : decode cX8_opened 55 = .ok (.iaload, 1) := by decide +kernel
theorem dX8_opened_56 : decode cX8_opened 56 = .ok (.iconst 2, 1) := by decide +kernel
theorem dX8_opened_57 : decode cX8_opened 57 = .ok (.imul, 1) := by decide +kernel
theorem dX8_opened_58 : decode cX8_opened 58 = .ok (.iload 5, 2) := by decide +kernel
theorem dX8_opened_60 : decode cX8_opened 60 = .ok (.iadd, 1) := by decide +kernel
theorem dX8_opened_61 : decode cX8_opened 61 = .ok (.ishl, 1) := by decide +kernel
theorem dX8_opened_62 : decode cX8_opened 62 = .ok (.ior, 1) := by decide +kernel
theorem dX8_opened_63 : decode cX8_opened 63 = .ok (.istore_n 2, 1) := by decide +kernel
theorem dX8_opened_64 : decode cX8_opened 64 = .ok (.iinc 5 1, 3) := by decide +kernel
theorem dX8_opened_67 : decode cX8_opened 67 = .ok (.goto (-47), 3) := by decide +kernel
theorem dX8_opened_70 : decode cX8_opened 70 = .ok (.aload_n 0, 1) := by decide +kernel
theorem dX8_opened_71 : decode cX8_opened 71 = .ok (.getfield 18, 3) := by decide +kernel
theorem dX8_opened_74 : decode cX8_opened 74 = .ok (.iload 4, 2) := by decide +kernel
theorem dX8_opened_76 : decode cX8_opened 76 = .ok (.iaload, 1) := by decide +kernel
theorem dX8_opened_77 : decode cX8_opened 77 = .ok (.istore_n 3, 1) := by decide +kernel
theorem dX8_opened_78 : decode cX8_opened 78 = .ok (.iinc 4 1, 3) := by decide +kernel
theorem dX8_opened_81 : decode cX8_opened 81 = .ok (.goto (-74), 3) := by decide +kernel
theorem dX8_opened_84 : decode cX8_opened 84 = .ok (.iload_n 2, 1) := by decide +kernel
theorem dX8_opened_85 : decode cX8_opened 85 = .ok (.ireturn, 1) := by decide +kernel
theorem dX8_holds_0 : decode cX8_holds 0 = .ok (.iconst 0, 1) := by decide +kernel
theorem dX8_holds_1 : decode cX8_holds 1 = .ok (.istore 4, 2) := by decide +kernel
theorem dX8_holds_3 : decode cX8_holds 3 = .ok (.iload_n 1, 1) := by decide +kernel
theorem dX8_holds_4 : decode cX8_holds 4 = .ok (.istore 5, 2) := by decide +kernel
theorem dX8_holds_6 : decode cX8_holds 6 = .ok (.iload 5, 2) := by decide +kernel
theorem dX8_holds_8 : decode cX8_holds 8 = .ok (.iload_n 2, 1) := by decide +kernel
theorem dX8_holds_9 : decode cX8_holds 9 = .ok (.if_icmp .ge 145, 3) := by decide +kernel
theorem dX8_holds_12 : decode cX8_holds 12 = .ok (.aload_n 0, 1) := by decide +kernel
theorem dX8_holds_13 : decode cX8_holds 13 = .ok (.getfield 9, 3) := by decide +kernel
theorem dX8_holds_16 : decode cX8_holds 16 = .ok (.iload 5, 2) := by decide +kernel
theorem dX8_holds_18 : decode cX8_holds 18 = .ok (.iaload, 1) := by decide +kernel
theorem dX8_holds_19 : decode cX8_holds 19 = .ok (.istore 6, 2) := by decide +kernel
theorem dX8_holds_21 : decode cX8_holds 21 = .ok (.iload 4, 2) := by decide +kernel
theorem dX8_holds_23 : decode cX8_holds 23 = .ok (.iconst 1, 1) := by decide +kernel
theorem dX8_holds_24 : decode cX8_holds 24 = .ok (.iand, 1) := by decide +kernel
theorem dX8_holds_25 : decode cX8_holds 25 = .ok (.istore 7, 2) := by decide +kernel
theorem dX8_holds_27 : decode cX8_holds 27 = .ok (.iload 6, 2) := by decide +kernel
theorem dX8_holds_29 : decode cX8_holds 29 = .ok (.iconst (-1), 1) := by decide +kernel
theorem dX8_holds_30 : decode cX8_holds 30 = .ok (.if_icmp .ne 12, 3) := by decide +kernel
theorem dX8_holds_33 : decode cX8_holds 33 = .ok (.iload 4, 2) := by decide +kernel
theorem dX8_holds_35 : decode cX8_holds 35 = .ok (.iconst 1, 1) := by decide +kernel
theorem dX8_holds_36 : decode cX8_holds 36 = .ok (.ixor, 1) := by decide +kernel
theorem dX8_holds_37 : decode cX8_holds 37 = .ok (.istore 4, 2) := by decide +kernel
theorem dX8_holds_39 : decode cX8_holds 39 = .ok (.goto 109, 3) := by decide +kernel
theorem dX8_holds_42 : decode cX8_holds 42 = .ok (.iload 6, 2) := by decide +kernel
theorem dX8_holds_44 : decode cX8_holds 44 = .ok (.bipush (-2), 2) := by decide +kernel
theorem dX8_holds_46 : decode cX8_holds 46 = .ok (.if_icmp .ne 17, 3) := by decide +kernel
theorem dX8_holds_49 : decode cX8_holds 49 = .ok (.iload 4, 2) := by decide +kernel
theorem dX8_holds_51 : decode cX8_holds 51 = .ok (.iconst 1, 1) := by decide +kernel
theorem dX8_holds_52 : decode cX8_holds 52 = .ok (.ishr, 1) := by decide +kernel
theorem dX8_holds_53 : decode cX8_holds 53 = .ok (.iload 7, 2) := by decide +kernel
theorem dX8_holds_55 : decode cX8_holds 55 = .ok (.iconst 2, 1) := by decide +kernel
theorem dX8_holds_56 : decode cX8_holds 56 = .ok (.isub, 1) := by decide +kernel
theorem dX8_holds_57 : decode cX8_holds 57 = .ok (.iand, 1) := by decide +kernel
theorem dX8_holds_58 : decode cX8_holds 58 = .ok (.istore 4, 2) := by decide +kernel
theorem dX8_holds_60 : decode cX8_holds 60 = .ok (.goto 88, 3) := by decide +kernel
theorem dX8_holds_63 : decode cX8_holds 63 = .ok (.iload 6, 2) := by decide +kernel
theorem dX8_holds_65 : decode cX8_holds 65 = .ok (.bipush (-3), 2) := by decide +kernel
theorem dX8_holds_67 : decode cX8_holds 67 = .ok (.if_icmp .ne 15, 3) := by decide +kernel
theorem dX8_holds_70 : decode cX8_holds 70 = .ok (.iload 4, 2) := by decide +kernel
theorem dX8_holds_72 : decode cX8_holds 72 = .ok (.iconst 1, 1) := by decide +kernel
theorem dX8_holds_73 : decode cX8_holds 73 = .ok (.ishr, 1) := by decide +kernel
theorem dX8_holds_74 : decode cX8_holds 74 = .ok (.iload 7, 2) := by decide +kernel
theorem dX8_holds_76 : decode cX8_holds 76 = .ok (.ior, 1) := by decide +kernel
theorem dX8_holds_77 : decode cX8_holds 77 = .ok (.istore 4, 2) := by decide +kernel
theorem dX8_holds_79 : decode cX8_holds 79 = .ok (.goto 69, 3) := by decide +kernel
theorem dX8_holds_82 : decode cX8_holds 82 = .ok (.aload_n 3, 1) := by decide +kernel
theorem dX8_holds_83 : decode cX8_holds 83 = .ok (.iload 6, 2) := by decide +kernel
theorem dX8_holds_85 : decode cX8_holds 85 = .ok (.sipush 300, 3) := by decide +kernel
theorem dX8_holds_88 : decode cX8_holds 88 = .ok (.idiv, 1) := by decide +kernel
theorem dX8_holds_89 : decode cX8_holds 89 = .ok (.iaload, 1) := by decide +kernel
theorem dX8_holds_90 : decode cX8_holds 90 = .ok (.istore 8, 2) := by decide +kernel
theorem dX8_holds_92 : decode cX8_holds 92 = .ok (.iload 6, 2) := by decide +kernel
theorem dX8_holds_94 : decode cX8_holds 94 = .ok (.bipush 100, 2) := by decide +kernel
theorem dX8_holds_96 : decode cX8_holds 96 = .ok (.irem, 1) := by decide +kernel
theorem dX8_holds_97 : decode cX8_holds 97 = .ok (.istore 9, 2) := by decide +kernel
theorem dX8_holds_99 : decode cX8_holds 99 = .ok (.iload 8, 2) := by decide +kernel
theorem dX8_holds_101 : decode cX8_holds 101 = .ok (.iload 9, 2) := by decide +kernel
theorem dX8_holds_103 : decode cX8_holds 103 = .ok (.if_icmp .ge 7, 3) := by decide +kernel
theorem dX8_holds_106 : decode cX8_holds 106 = .ok (.iconst 0, 1) := by decide +kernel
theorem dX8_holds_107 : decode cX8_holds 107 = .ok (.goto 15, 3) := by decide +kernel
theorem dX8_holds_110 : decode cX8_holds 110 = .ok (.iload 8, 2) := by decide +kernel
theorem dX8_holds_112 : decode cX8_holds 112 = .ok (.iload 9, 2) := by decide +kernel
theorem dX8_holds_114 : decode cX8_holds 114 = .ok (.if_icmp .ne 7, 3) := by decide +kernel
theorem dX8_holds_117 : decode cX8_holds 117 = .ok (.iconst 1, 1) := by decide +kernel
theorem dX8_holds_118 : decode cX8_holds 118 = .ok (.goto 4, 3) := by decide +kernel
theorem dX8_holds_121 : decode cX8_holds 121 = .ok (.iconst 2, 1) := by decide +kernel
theorem dX8_holds_122 : decode cX8_holds 122 = .ok (.istore 10, 2) := by decide +kernel
theorem dX8_holds_124 : decode cX8_holds 124 = .ok (.iload 4, 2) := by decide +kernel
theorem dX8_holds_126 : decode cX8_holds 126 = .ok (.iconst 1, 1) := by decide +kernel
theorem dX8_holds_127 : decode cX8_holds 127 = .ok (.ishl, 1) := by decide +kernel
theorem dX8_holds_128 : decode cX8_holds 128 = .ok (.iload 10, 2) := by decide +kernel
theorem dX8_holds_130 : decode cX8_holds 130 = .ok (.iload 6, 2) := by decide +kernel
theorem dX8_holds_132 : decode cX8_holds 132 = .ok (.bipush 100, 2) := by decide +kernel
theorem dX8_holds_134 : decode cX8_holds 134 = .ok (.idiv, 1) := by decide +kernel
theorem dX8_holds_135 : decode cX8_holds 135 = .ok (.iconst 3, 1) := by decide +kernel
theorem dX8_holds_136 : decode cX8_holds 136 = .ok (.irem, 1) := by decide +kernel
theorem dX8_holds_137 : decode cX8_holds 137 = .ok (.if_icmp .ne 7, 3) := by decide +kernel
theorem dX8_holds_140 : decode cX8_holds 140 = .ok (.iconst 1, 1) := by decide +kernel
theorem dX8_holds_141 : decode cX8_holds 141 = .ok (.goto 4, 3) := by decide +kernel
theorem dX8_holds_144 : decode cX8_holds 144 = .ok (.iconst 0, 1) := by decide +kernel
theorem dX8_holds_145 : decode cX8_holds 145 = .ok (.ior, 1) := by decide +kernel
theorem dX8_holds_146 : decode cX8_holds 146 = .ok (.istore 4, 2) := by decide +kernel
theorem dX8_holds_148 : decode cX8_holds 148 = .ok (.iinc 5 1, 3) := by decide +kernel
theorem dX8_holds_151 : decode cX8_holds 151 = .ok (.goto (-145), 3) := by decide +kernel
theorem dX8_holds_154 : decode cX8_holds 154 = .ok (.iload 4, 2) := by decide +kernel
theorem dX8_holds_156 : decode cX8_holds 156 = .ok (.iconst 1, 1) := by decide +kernel
theorem dX8_holds_157 : decode cX8_holds 157 = .ok (.iand, 1) := by decide +kernel
theorem dX8_holds_158 : decode cX8_holds 158 = .ok (.iconst 1, 1) := by decide +kernel
theorem dX8_holds_159 : decode cX8_holds 159 = .ok (.if_icmp .ne 7, 3) := by decide +kernel
theorem dX8_holds_162 : decode cX8_holds 162 = .ok (.iconst 1, 1) := by decide +kernel
theorem dX8_holds_163 : decode cX8_holds 163 = .ok (.goto 4, 3) := by decide +kernel
theorem dX8_holds_166 : decode cX8_holds 166 = .ok (.iconst 0, 1) := by decide +kernel
theorem dX8_holds_167 : decode cX8_holds 167 = .ok (.ireturn, 1) := by decide +kernel
theorem dX8_test_0 : decode cX8_test 0 = .ok (.iload_n 0, 1) := by decide +kernel
theorem dX8_test_1 : decode cX8_test 1 = .ok (.iconst 3, 1) := by decide +kernel
theorem dX8_test_2 : decode cX8_test 2 = .ok (.imul, 1) := by decide +kernel
theorem dX8_test_3 : decode cX8_test 3 = .ok (.iload_n 1, 1) := by decide +kernel
theorem dX8_test_4 : decode cX8_test 4 = .ok (.iadd, 1) := by decide +kernel
theorem dX8_test_5 : decode cX8_test 5 = .ok (.bipush 100, 2) := by decide +kernel
theorem dX8_test_7 : decode cX8_test 7 = .ok (.imul, 1) := by decide +kernel
theorem dX8_test_8 : decode cX8_test 8 = .ok (.iload_n 2, 1) := by decide +kernel
theorem dX8_test_9 : decode cX8_test 9 = .ok (.iadd, 1) := by decide +kernel
theorem dX8_test_10 : decode cX8_test 10 = .ok (.ireturn, 1) := by decide +kernel
theorem dX9_init_0 : decode cX9_init 0 = .ok (.aload_n 0, 1) := by decide +kernel
theorem dX9_init_1 : decode cX9_init 1 = .ok (.iload_n 1, 1) := by decide +kernel
theorem dX9_init_2 : decode cX9_init 2 = .ok (.iload_n 2, 1) := by decide +kernel
theorem dX9_init_3 : decode cX9_init 3 = .ok (.iload_n 3, 1) := by decide +kernel
theorem dX9_init_4 : decode cX9_init 4 = .ok (.invokespecial 3, 3) := by decide +kernel
theorem dX9_init_7 : decode cX9_init 7 = .ok (.return_, 1) := by decide +kernel
theorem dX9_does_0 : decode cX9_does 0 = .ok (.aload_n 1, 1) := by decide +kernel
theorem dX9_does_1 : decode cX9_does 1 = .ok (.getfield 9, 3) := by decide +kernel
theorem dX9_does_4 : decode cX9_does 4 = .ok (.aload_n 0, 1) := by decide +kernel
theorem dX9_does_5 : decode cX9_does 5 = .ok (.getfield 15, 3) := by decide +kernel
theorem dX9_does_8 : decode cX9_does 8 = .ok (.if_icmp .gt 15, 3) := by decide +kernel
theorem dX9_does_11 : decode cX9_does 11 = .ok (.aload_n 1, 1) := by decide +kernel
theorem dX9_does_12 : decode cX9_does 12 = .ok (.iload_n 2, 1) := by decide +kernel
theorem dX9_does_13 : decode cX9_does 13 = .ok (.iload_n 3, 1) := by decide +kernel
theorem dX9_does_14 : decode cX9_does 14 = .ok (.invokevirtual 20, 3) := by decide +kernel
theorem dX9_does_17 : decode cX9_does 17 = .ok (.invokestatic 24, 3) := by decide +kernel
theorem dX9_does_20 : decode cX9_does 20 = .ok (.goto 4, 3) := by decide +kernel
theorem dX9_does_23 : decode cX9_does 23 = .ok (.iconst 3, 1) := by decide +kernel
theorem dX9_does_24 : decode cX9_does 24 = .ok (.ireturn, 1) := by decide +kernel
theorem dX9_tells_0 : decode cX9_tells 0 = .ok (.bipush 31, 2) := by decide +kernel
theorem dX9_tells_2 : decode cX9_tells 2 = .ok (.aload_n 2, 1) := by decide +kernel
theorem dX9_tells_3 : decode cX9_tells 3 = .ok (.invokestatic 28, 3) := by decide +kernel
theorem dX9_tells_6 : decode cX9_tells 6 = .ok (.aload_n 0, 1) := by decide +kernel
theorem dX9_tells_7 : decode cX9_tells 7 = .ok (.iload_n 1, 1) := by decide +kernel
theorem dX9_tells_8 : decode cX9_tells 8 = .ok (.aload_n 2, 1) := by decide +kernel
theorem dX9_tells_9 : decode cX9_tells 9 = .ok (.invokespecial 32, 3) := by decide +kernel
theorem dX9_tells_12 : decode cX9_tells 12 = .ok (.bipush 7, 2) := by decide +kernel
theorem dX9_tells_14 : decode cX9_tells 14 = .ok (.ixor, 1) := by decide +kernel
theorem dX9_tells_15 : decode cX9_tells 15 = .ok (.ireturn, 1) := by decide +kernel
theorem dX10_init_0 : decode cX10_init 0 = .ok (.aload_n 0, 1) := by decide +kernel
theorem dX10_init_1 : decode cX10_init 1 = .ok (.invokespecial 3, 3) := by decide +kernel
theorem dX10_init_4 : decode cX10_init 4 = .ok (.aload_n 0, 1) := by decide +kernel
theorem dX10_init_5 : decode cX10_init 5 = .ok (.iload_n 1, 1) := by decide +kernel
theorem dX10_init_6 : decode cX10_init 6 = .ok (.putfield 9, 3) := by decide +kernel
theorem dX10_init_9 : decode cX10_init 9 = .ok (.aload_n 0, 1) := by decide +kernel
theorem dX10_init_10 : decode cX10_init 10 = .ok (.iload_n 2, 1) := by decide +kernel
theorem dX10_init_11 : decode cX10_init 11 = .ok (.putfield 15, 3) := by decide +kernel
theorem dX10_init_14 : decode cX10_init 14 = .ok (.aload_n 0, 1) := by decide +kernel
theorem dX10_init_15 : decode cX10_init 15 = .ok (.iload_n 3, 1) := by decide +kernel
theorem dX10_init_16 : decode cX10_init 16 = .ok (.putfield 18, 3) := by decide +kernel
theorem dX10_init_19 : decode cX10_init 19 = .ok (.return_, 1) := by decide +kernel
theorem dX10_does_0 : decode cX10_does 0 = .ok (.iconst 3, 1) := by decide +kernel
theorem dX10_does_1 : decode cX10_does 1 = .ok (.ireturn, 1) := by decide +kernel
theorem dX10_sows_0 : decode cX10_sows 0 = .ok (.iconst 1, 1) := by decide +kernel
theorem dX10_sows_1 : decode cX10_sows 1 = .ok (.aload_n 2, 1) := by decide +kernel
theorem dX10_sows_2 : decode cX10_sows 2 = .ok (.invokestatic 21, 3) := by decide +kernel
theorem dX10_sows_5 : decode cX10_sows 5 = .ok (.iload_n 1, 1) := by decide +kernel
theorem dX10_sows_6 : decode cX10_sows 6 = .ok (.aload_n 0, 1) := by decide +kernel
theorem dX10_sows_7 : decode cX10_sows 7 = .ok (.getfield 15, 3) := by decide +kernel
theorem dX10_sows_10 : decode cX10_sows 10 = .ok (.iadd, 1) := by decide +kernel
theorem dX10_sows_11 : decode cX10_sows 11 = .ok (.ireturn, 1) := by decide +kernel
theorem dX10_cuts_0 : decode cX10_cuts 0 = .ok (.iconst 2, 1) := by decide +kernel
theorem dX10_cuts_1 : decode cX10_cuts 1 = .ok (.aload_n 2, 1) := by decide +kernel
theorem dX10_cuts_2 : decode cX10_cuts 2 = .ok (.invokestatic 21, 3) := by decide +kernel
theorem dX10_cuts_5 : decode cX10_cuts 5 = .ok (.aload_n 0, 1) := by decide +kernel
theorem dX10_cuts_6 : decode cX10_cuts 6 = .ok (.iload_n 1, 1) := by decide +kernel
theorem dX10_cuts_7 : decode cX10_cuts 7 = .ok (.aload_n 2, 1) := by decide +kernel
theorem dX10_cuts_8 : decode cX10_cuts 8 = .ok (.invokevirtual 25, 3) := by decide +kernel
theorem dX10_cuts_11 : decode cX10_cuts 11 = .ok (.aload_n 0, 1) := by decide +kernel
theorem dX10_cuts_12 : decode cX10_cuts 12 = .ok (.getfield 18, 3) := by decide +kernel
theorem dX10_cuts_15 : decode cX10_cuts 15 = .ok (.isub, 1) := by decide +kernel
theorem dX10_cuts_16 : decode cX10_cuts 16 = .ok (.ireturn, 1) := by decide +kernel
theorem dX10_tells_0 : decode cX10_tells 0 = .ok (.iconst 3, 1) := by decide +kernel
theorem dX10_tells_1 : decode cX10_tells 1 = .ok (.aload_n 2, 1) := by decide +kernel
theorem dX10_tells_2 : decode cX10_tells 2 = .ok (.invokestatic 21, 3) := by decide +kernel
theorem dX10_tells_5 : decode cX10_tells 5 = .ok (.aload_n 0, 1) := by decide +kernel
theorem dX10_tells_6 : decode cX10_tells 6 = .ok (.iload_n 1, 1) := by decide +kernel
theorem dX10_tells_7 : decode cX10_tells 7 = .ok (.aload_n 2, 1) := by decide +kernel
theorem dX10_tells_8 : decode cX10_tells 8 = .ok (.invokevirtual 29, 3) := by decide +kernel
theorem dX10_tells_11 : decode cX10_tells 11 = .ok (.iconst 2, 1) := by decide +kernel
theorem dX10_tells_12 : decode cX10_tells 12 = .ok (.imul, 1) := by decide +kernel
theorem dX10_tells_13 : decode cX10_tells 13 = .ok (.ireturn, 1) := by decide +kernel
theorem dX10_began_0 : decode cX10_began 0 = .ok (.aload_n 1, 1) := by decide +kernel
theorem dX10_began_1 : decode cX10_began 1 = .ok (.iconst 0, 1) := by decide +kernel
theorem dX10_began_2 : decode cX10_began 2 = .ok (.dup2, 1) := by decide +kernel
theorem dX10_began_3 : decode cX10_began 3 = .ok (.iaload, 1) := by decide +kernel
theorem dX10_began_4 : decode cX10_began 4 = .ok (.iconst 1, 1) := by decide +kernel
theorem dX10_began_5 : decode cX10_began 5 = .ok (.iadd, 1) := by decide +kernel
theorem dX10_began_6 : decode cX10_began 6 = .ok (.iastore, 1) := by decide +kernel
theorem dX10_began_7 : decode cX10_began 7 = .ok (.aload_n 1, 1) := by decide +kernel
theorem dX10_began_8 : decode cX10_began 8 = .ok (.iconst 0, 1) := by decide +kernel
theorem dX10_began_9 : decode cX10_began 9 = .ok (.iaload, 1) := by decide +kernel
theorem dX10_began_10 : decode cX10_began 10 = .ok (.aload_n 1, 1) := by decide +kernel
theorem dX10_began_11 : decode cX10_began 11 = .ok (.arraylength, 1) := by decide +kernel
theorem dX10_began_12 : decode cX10_began 12 = .ok (.if_icmp .ge 9, 3) := by decide +kernel
theorem dX10_began_15 : decode cX10_began 15 = .ok (.aload_n 1, 1) := by decide +kernel
theorem dX10_began_16 : decode cX10_began 16 = .ok (.aload_n 1, 1) := by decide +kernel
theorem dX10_began_17 : decode cX10_began 17 = .ok (.iconst 0, 1) := by decide +kernel
theorem dX10_began_18 : decode cX10_began 18 = .ok (.iaload, 1) := by decide +kernel
theorem dX10_began_19 : decode cX10_began 19 = .ok (.iload_n 0, 1) := by decide +kernel
theorem dX10_began_20 : decode cX10_began 20 = .ok (.iastore, 1) := by decide +kernel
theorem dX10_began_21 : decode cX10_began 21 = .ok (.return_, 1) := by decide +kernel
theorem dX10_least_0 : decode cX10_least 0 = .ok (.iconst 0, 1) := by decide +kernel
theorem dX10_least_1 : decode cX10_least 1 = .ok (.istore_n 1, 1) := by decide +kernel
theorem dX10_least_2 : decode cX10_least 2 = .ok (.iload_n 1, 1) := by decide +kernel
theorem dX10_least_3 : decode cX10_least 3 = .ok (.iconst 3, 1) := by decide +kernel
theorem dX10_least_4 : decode cX10_least 4 = .ok (.if_icmp .ge 19, 3) := by decide +kernel
theorem dX10_least_7 : decode cX10_least 7 = .ok (.iload_n 0, 1) := by decide +kernel
theorem dX10_least_8 : decode cX10_least 8 = .ok (.iload_n 1, 1) := by decide +kernel
theorem dX10_least_9 : decode cX10_least 9 = .ok (.invokestatic 32, 3) := by decide +kernel
theorem dX10_least_12 : decode cX10_least 12 = .ok (.ifCond .eq 5, 3) := by decide +kernel
theorem dX10_least_15 : decode cX10_least 15 = .ok (.iload_n 1, 1) := by decide +kernel
theorem dX10_least_16 : decode cX10_least 16 = .ok (.ireturn, 1) := by decide +kernel
theorem dX10_least_17 : decode cX10_least 17 = .ok (.iinc 1 1, 3) := by decide +kernel
theorem dX10_least_20 : decode cX10_least 20 = .ok (.goto (-18), 3) := by decide +kernel
theorem dX10_least_23 : decode cX10_least 23 = .ok (.iconst 3, 1) := by decide +kernel
theorem dX10_least_24 : decode cX10_least 24 = .ok (.ireturn, 1) := by decide +kernel
theorem dX11_init_0 : decode cX11_init 0 = .ok (.aload_n 0, 1) := by decide +kernel
theorem dX11_init_1 : decode cX11_init 1 = .ok (.invokespecial 5, 3) := by decide +kernel
theorem dX11_init_4 : decode cX11_init 4 = .ok (.iconst 0, 1) := by decide +kernel
theorem dX11_init_5 : decode cX11_init 5 = .ok (.newarray .int, 2) := by decide +kernel
theorem dX11_init_7 : decode cX11_init 7 = .ok (.astore_n 1, 1) := by decide +kernel
theorem dX11_init_8 : decode cX11_init 8 = .ok (.new 11, 3) := by decide +kernel
theorem dX11_init_11 : decode cX11_init 11 = .ok (.dup, 1) := by decide +kernel
theorem dX11_init_12 : decode cX11_init 12 = .ok (.aload_n 1, 1) := by decide +kernel
theorem dX11_init_13 : decode cX11_init 13 = .ok (.aload_n 1, 1) := by decide +kernel
theorem dX11_init_14 : decode cX11_init 14 = .ok (.aload_n 1, 1) := by decide +kernel
theorem dX11_init_15 : decode cX11_init 15 = .ok (.iconst 3, 1) := by decide +kernel
theorem dX11_init_16 : decode cX11_init 16 = .ok (.newarray .int, 2) := by decide +kernel
theorem dX11_init_18 : decode cX11_init 18 = .ok (.dup, 1) := by decide +kernel
theorem dX11_init_19 : decode cX11_init 19 = .ok (.iconst 0, 1) := by decide +kernel
theorem dX11_init_20 : decode cX11_init 20 = .ok (.iconst 1, 1) := by decide +kernel
theorem dX11_init_21 : decode cX11_init 21 = .ok (.iastore, 1) := by decide +kernel
theorem dX11_init_22 : decode cX11_init 22 = .ok (.dup, 1) := by decide +kernel
theorem dX11_init_23 : decode cX11_init 23 = .ok (.iconst 1, 1) := by decide +kernel
theorem dX11_init_24 : decode cX11_init 24 = .ok (.iconst 1, 1) := by decide +kernel
theorem dX11_init_25 : decode cX11_init 25 = .ok (.iastore, 1) := by decide +kernel
theorem dX11_init_26 : decode cX11_init 26 = .ok (.dup, 1) := by decide +kernel
theorem dX11_init_27 : decode cX11_init 27 = .ok (.iconst 2, 1) := by decide +kernel
theorem dX11_init_28 : decode cX11_init 28 = .ok (.iconst 1, 1) := by decide +kernel
theorem dX11_init_29 : decode cX11_init 29 = .ok (.iastore, 1) := by decide +kernel
theorem dX11_init_30 : decode cX11_init 30 = .ok (.iconst 0, 1) := by decide +kernel
theorem dX11_init_31 : decode cX11_init 31 = .ok (.invokespecial 13, 3) := by decide +kernel
theorem dX11_init_34 : decode cX11_init 34 = .ok (.astore_n 2, 1) := by decide +kernel
theorem dX11_init_35 : decode cX11_init 35 = .ok (.sipush 5832, 3) := by decide +kernel
theorem dX11_init_38 : decode cX11_init 38 = .ok (.newarray .int, 2) := by decide +kernel
theorem dX11_init_40 : decode cX11_init 40 = .ok (.astore_n 3, 1) := by decide +kernel
theorem dX11_init_41 : decode cX11_init 41 = .ok (.aload_n 0, 1) := by decide +kernel
theorem dX11_init_42 : decode cX11_init 42 = .ok (.new 16, 3) := by decide +kernel
theorem dX11_init_45 : decode cX11_init 45 = .ok (.dup, 1) := by decide +kernel
theorem dX11_init_46 : decode cX11_init 46 = .ok (.aload_n 2, 1) := by decide +kernel
theorem dX11_init_47 : decode cX11_init 47 = .ok (.invokespecial 18, 3) := by decide +kernel
theorem dX11_init_50 : decode cX11_init 50 = .ok (.putfield 21, 3) := by decide +kernel
theorem dX11_init_53 : decode cX11_init 53 = .ok (.aload_n 0, 1) := by decide +kernel
theorem dX11_init_54 : decode cX11_init 54 = .ok (.new 16, 3) := by decide +kernel
theorem dX11_init_57 : decode cX11_init 57 = .ok (.dup, 1) := by decide +kernel
theorem dX11_init_58 : decode cX11_init 58 = .ok (.aload_n 2, 1) := by decide +kernel
theorem dX11_init_59 : decode cX11_init 59 = .ok (.invokespecial 18, 3) := by decide +kernel
theorem dX11_init_62 : decode cX11_init 62 = .ok (.putfield 25, 3) := by decide +kernel
theorem dX11_init_65 : decode cX11_init 65 = .ok (.aload_n 0, 1) := by decide +kernel
theorem dX11_init_66 : decode cX11_init 66 = .ok (.new 28, 3) := by decide +kernel
theorem dX11_init_69 : decode cX11_init 69 = .ok (.dup, 1) := by decide +kernel
theorem dX11_init_70 : decode cX11_init 70 = .ok (.invokespecial 30, 3) := by decide +kernel
theorem dX11_init_73 : decode cX11_init 73 = .ok (.putfield 31, 3) := by decide +kernel
theorem dX11_init_76 : decode cX11_init 76 = .ok (.aload_n 0, 1) := by decide +kernel
theorem dX11_init_77 : decode cX11_init 77 = .ok (.new 35, 3) := by decide +kernel
theorem dX11_init_80 : decode cX11_init 80 = .ok (.dup, 1) := by decide +kernel
theorem dX11_init_81 : decode cX11_init 81 = .ok (.aload_n 2, 1) := by decide +kernel
theorem dX11_init_82 : decode cX11_init 82 = .ok (.aload_n 3, 1) := by decide +kernel
theorem dX11_init_83 : decode cX11_init 83 = .ok (.invokespecial 37, 3) := by decide +kernel
theorem dX11_init_86 : decode cX11_init 86 = .ok (.putfield 40, 3) := by decide +kernel
theorem dX11_init_89 : decode cX11_init 89 = .ok (.aload_n 0, 1) := by decide +kernel
theorem dX11_init_90 : decode cX11_init 90 = .ok (.new 35, 3) := by decide +kernel
theorem dX11_init_93 : decode cX11_init 93 = .ok (.dup, 1) := by decide +kernel
theorem dX11_init_94 : decode cX11_init 94 = .ok (.aload_n 2, 1) := by decide +kernel
theorem dX11_init_95 : decode cX11_init 95 = .ok (.aload_n 3, 1) := by decide +kernel
theorem dX11_init_96 : decode cX11_init 96 = .ok (.invokespecial 37, 3) := by decide +kernel
theorem dX11_init_99 : decode cX11_init 99 = .ok (.putfield 44, 3) := by decide +kernel
theorem dX11_init_102 : decode cX11_init 102 = .ok (.aload_n 0, 1) := by decide +kernel
theorem dX11_init_103 : decode cX11_init 103 = .ok (.bipush 21, 2) := by decide +kernel
theorem dX11_init_105 : decode cX11_init 105 = .ok (.newarray .int, 2) := by decide +kernel
theorem dX11_init_107 : decode cX11_init 107 = .ok (.putfield 47, 3) := by decide +kernel
theorem dX11_init_110 : decode cX11_init 110 = .ok (.return_, 1) := by decide +kernel
theorem dX11_bag_0 : decode cX11_bag 0 = .ok (.aload_n 0, 1) := by decide +kernel
theorem dX11_bag_1 : decode cX11_bag 1 = .ok (.getfield 21, 3) := by decide +kernel
theorem dX11_bag_4 : decode cX11_bag 4 = .ok (.getfield 51, 3) := by decide +kernel
theorem dX11_bag_7 : decode cX11_bag 7 = .ok (.iload_n 1, 1) := by decide +kernel
theorem dX11_bag_8 : decode cX11_bag 8 = .ok (.iload_n 2, 1) := by decide +kernel
theorem dX11_bag_9 : decode cX11_bag 9 = .ok (.invokestatic 54, 3) := by decide +kernel
theorem dX11_bag_12 : decode cX11_bag 12 = .ok (.ireturn, 1) := by decide +kernel
theorem dX11_feed_0 : decode cX11_feed 0 = .ok (.iload_n 1, 1) := by decide +kernel
theorem dX11_feed_1 : decode cX11_feed 1 = .ok (.ifCond .lt 9, 3) := by decide +kernel
theorem dX11_feed_4 : decode cX11_feed 4 = .ok (.iload_n 1, 1) := by decide +kernel
theorem dX11_feed_5 : decode cX11_feed 5 = .ok (.bipush 127, 2) := by decide +kernel
theorem dX11_feed_7 : decode cX11_feed 7 = .ok (.if_icmp .le 6, 3) := by decide +kernel
theorem dX11_feed_10 : decode cX11_feed 10 = .ok (.bipush (-2), 2) := by decide +kernel
theorem dX11_feed_12 : decode cX11_feed 12 = .ok (.ireturn, 1) := by decide +kernel
theorem dX11_feed_13 : decode cX11_feed 13 = .ok (.aload_n 0, 1) := by decide +kernel
theorem dX11_feed_14 : decode cX11_feed 14 = .ok (.getfield 21, 3) := by decide +kernel
theorem dX11_feed_17 : decode cX11_feed 17 = .ok (.getfield 58, 3) := by decide +kernel
theorem dX11_feed_20 : decode cX11_feed 20 = .ok (.bipush 100, 2) := by decide +kernel
theorem dX11_feed_22 : decode cX11_feed 22 = .ok (.if_icmp .lt 6, 3) := by decide +kernel
theorem dX11_feed_25 : decode cX11_feed 25 = .ok (.bipush (-4), 2) := by decide +kernel
theorem dX11_feed_27 : decode cX11_feed 27 = .ok (.ireturn, 1) := by decide +kernel
theorem dX11_feed_28 : decode cX11_feed 28 = .ok (.aload_n 0, 1) := by decide +kernel
theorem dX11_feed_29 : decode cX11_feed 29 = .ok (.getfield 21, 3) := by decide +kernel
theorem dX11_feed_32 : decode cX11_feed 32 = .ok (.getfield 62, 3) := by decide +kernel
theorem dX11_feed_35 : decode cX11_feed 35 = .ok (.aload_n 0, 1) := by decide +kernel
theorem dX11_feed_36 : decode cX11_feed 36 = .ok (.getfield 21, 3) := by decide +kernel
theorem dX11_feed_39 : decode cX11_feed 39 = .ok (.getfield 58, 3) := by decide +kernel
theorem dX11_feed_42 : decode cX11_feed 42 = .ok (.iload_n 1, 1) := by decide +kernel
theorem dX11_feed_43 : decode cX11_feed 43 = .ok (.iastore, 1) := by decide +kernel
theorem dX11_feed_44 : decode cX11_feed 44 = .ok (.aload_n 0, 1) := by decide +kernel
theorem dX11_feed_45 : decode cX11_feed 45 = .ok (.getfield 21, 3) := by decide +kernel
theorem dX11_feed_48 : decode cX11_feed 48 = .ok (.dup, 1) := by decide +kernel
theorem dX11_feed_49 : decode cX11_feed 49 = .ok (.getfield 58, 3) := by decide +kernel
theorem dX11_feed_52 : decode cX11_feed 52 = .ok (.iconst 1, 1) := by decide +kernel
theorem dX11_feed_53 : decode cX11_feed 53 = .ok (.iadd, 1) := by decide +kernel
theorem dX11_feed_54 : decode cX11_feed 54 = .ok (.putfield 58, 3) := by decide +kernel
theorem dX11_feed_57 : decode cX11_feed 57 = .ok (.aload_n 0, 1) := by decide +kernel
theorem dX11_feed_58 : decode cX11_feed 58 = .ok (.getfield 21, 3) := by decide +kernel
theorem dX11_feed_61 : decode cX11_feed 61 = .ok (.getfield 58, 3) := by decide +kernel
theorem dX11_feed_64 : decode cX11_feed 64 = .ok (.ireturn, 1) := by decide +kernel
theorem dX11_valley_0 : decode cX11_valley 0 = .ok (.aload_n 0, 1) := by decide +kernel
theorem dX11_valley_1 : decode cX11_valley 1 = .ok (.getfield 21, 3) := by decide +kernel
theorem dX11_valley_4 : decode cX11_valley 4 = .ok (.getfield 65, 3) := by decide +kernel
theorem dX11_valley_7 : decode cX11_valley 7 = .ok (.iconst 5, 1) := by decide +kernel
theorem dX11_valley_8 : decode cX11_valley 8 = .ok (.if_icmp .lt 6, 3) := by decide +kernel
theorem dX11_valley_11 : decode cX11_valley 11 = .ok (.bipush (-4), 2) := by decide +kernel
theorem dX11_valley_13 : decode cX11_valley 13 = .ok (.ireturn, 1) := by decide +kernel
theorem dX11_valley_14 : decode cX11_valley 14 = .ok (.aload_n 0, 1) := by decide +kernel
theorem dX11_valley_15 : decode cX11_valley 15 = .ok (.getfield 31, 3) := by decide +kernel
theorem dX11_valley_18 : decode cX11_valley 18 = .ok (.aload_n 0, 1) := by decide +kernel
theorem dX11_valley_19 : decode cX11_valley 19 = .ok (.getfield 21, 3) := by decide +kernel
theorem dX11_valley_22 : decode cX11_valley 22 = .ok (.getfield 62, 3) := by decide +kernel
theorem dX11_valley_25 : decode cX11_valley 25 = .ok (.aload_n 0, 1) := by decide +kernel
theorem dX11_valley_26 : decode cX11_valley 26 = .ok (.getfield 21, 3) := by decide +kernel
theorem dX11_valley_29 : decode cX11_valley 29 = .ok (.getfield 58, 3) := by decide +kernel
theorem dX11_valley_32 : decode cX11_valley 32 = .ok (.invokevirtual 68, 3) := by decide +kernel
theorem dX11_valley_35 : decode cX11_valley 35 = .ok (.istore_n 1, 1) := by decide +kernel
theorem dX11_valley_36 : decode cX11_valley 36 = .ok (.aload_n 0, 1) := by decide +kernel
theorem dX11_valley_37 : decode cX11_valley 37 = .ok (.getfield 21, 3) := by decide +kernel
theorem dX11_valley_40 : decode cX11_valley 40 = .ok (.iconst 0, 1) := by decide +kernel
theorem dX11_valley_41 : decode cX11_valley 41 = .ok (.putfield 58, 3) := by decide +kernel
theorem dX11_valley_44 : decode cX11_valley 44 = .ok (.iload_n 1, 1) := by decide +kernel
theorem dX11_valley_45 : decode cX11_valley 45 = .ok (.ifCond .lt 8, 3) := by decide +kernel
theorem dX11_valley_48 : decode cX11_valley 48 = .ok (.bipush (-10), 2) := by decide +kernel
theorem dX11_valley_50 : decode cX11_valley 50 = .ok (.iload_n 1, 1) := by decide +kernel
theorem dX11_valley_51 : decode cX11_valley 51 = .ok (.isub, 1) := by decide +kernel
theorem dX11_valley_52 : decode cX11_valley 52 = .ok (.ireturn, 1) := by decide +kernel
theorem dX11_valley_53 : decode cX11_valley 53 = .ok (.aload_n 0, 1) := by decide +kernel
theorem dX11_valley_54 : decode cX11_valley 54 = .ok (.getfield 21, 3) := by decide +kernel
theorem dX11_valley_57 : decode cX11_valley 57 = .ok (.aload_n 0, 1) := by decide +kernel
theorem dX11_valley_58 : decode cX11_valley 58 = .ok (.getfield 31, 3) := by decide +kernel
theorem dX11_valley_61 : decode cX11_valley 61 = .ok (.invokevirtual 72, 3) := by decide +kernel
theorem dX11_valley_64 : decode cX11_valley 64 = .ok (.putfield 76, 3) := by decide +kernel
theorem dX11_valley_67 : decode cX11_valley 67 = .ok (.aload_n 0, 1) := by decide +kernel
theorem dX11_valley_68 : decode cX11_valley 68 = .ok (.getfield 21, 3) := by decide +kernel
theorem dX11_valley_71 : decode cX11_valley 71 = .ok (.dup, 1) := by decide +kernel
theorem dX11_valley_72 : decode cX11_valley 72 = .ok (.getfield 65, 3) := by decide +kernel
theorem dX11_valley_75 : decode cX11_valley 75 = .ok (.iconst 1, 1) := by decide +kernel
theorem dX11_valley_76 : decode cX11_valley 76 = .ok (.iadd, 1) := by decide +kernel
theorem dX11_valley_77 : decode cX11_valley 77 = .ok (.putfield 65, 3) := by decide +kernel
theorem dX11_valley_80 : decode cX11_valley 80 = .ok (.aload_n 0, 1) := by decide +kernel
theorem dX11_valley_81 : decode cX11_valley 81 = .ok (.getfield 21, 3) := by decide +kernel
theorem dX11_valley_84 : decode cX11_valley 84 = .ok (.getfield 65, 3) := by decide +kernel
theorem dX11_valley_87 : decode cX11_valley 87 = .ok (.iconst 1, 1) := by decide +kernel
theorem dX11_valley_88 : decode cX11_valley 88 = .ok (.isub, 1) := by decide +kernel
theorem dX11_valley_89 : decode cX11_valley 89 = .ok (.ireturn, 1) := by decide +kernel
theorem dX11_told_0 : decode cX11_told 0 = .ok (.iload_n 1, 1) := by decide +kernel
theorem dX11_told_1 : decode cX11_told 1 = .ok (.ifCond .ne 14, 3) := by decide +kernel
theorem dX11_told_4 : decode cX11_told 4 = .ok (.aload_n 0, 1) := by decide +kernel
theorem dX11_told_5 : decode cX11_told 5 = .ok (.getfield 21, 3) := by decide +kernel
theorem dX11_told_8 : decode cX11_told 8 = .ok (.getfield 76, 3) := by decide +kernel
theorem dX11_told_11 : decode cX11_told 11 = .ok (.getfield 80, 3) := by decide +kernel
theorem dX11_told_14 : decode cX11_told 14 = .ok (.ireturn, 1) := by decide +kernel
theorem dX11_told_15 : decode cX11_told 15 = .ok (.iload_n 1, 1) := by decide +kernel
theorem dX11_told_16 : decode cX11_told 16 = .ok (.iconst 1, 1) := by decide +kernel
theorem dX11_told_17 : decode cX11_told 17 = .ok (.if_icmp .ne 11, 3) := by decide +kernel
theorem dX11_told_20 : decode cX11_told 20 = .ok (.aload_n 0, 1) := by decide +kernel
theorem dX11_told_21 : decode cX11_told 21 = .ok (.getfield 21, 3) := by decide +kernel
theorem dX11_told_24 : decode cX11_told 24 = .ok (.getfield 83, 3) := by decide +kernel
theorem dX11_told_27 : decode cX11_told 27 = .ok (.ireturn, 1) := by decide +kernel
theorem dX11_told_28 : decode cX11_told 28 = .ok (.iload_n 1, 1) := by decide +kernel
theorem dX11_told_29 : decode cX11_told 29 = .ok (.iconst 2, 1) := by decide +kernel
theorem dX11_told_30 : decode cX11_told 30 = .ok (.if_icmp .ne 14, 3) := by decide +kernel
theorem dX11_told_33 : decode cX11_told 33 = .ok (.aload_n 0, 1) := by decide +kernel
theorem dX11_told_34 : decode cX11_told 34 = .ok (.getfield 21, 3) := by decide +kernel
theorem dX11_told_37 : decode cX11_told 37 = .ok (.getfield 51, 3) := by decide +kernel
theorem dX11_told_40 : decode cX11_told 40 = .ok (.invokestatic 86, 3) := by decide +kernel
theorem dX11_told_43 : decode cX11_told 43 = .ok (.ireturn, 1) := by decide +kernel
theorem dX11_told_44 : decode cX11_told 44 = .ok (.iload_n 1, 1) := by decide +kernel
theorem dX11_told_45 : decode cX11_told 45 = .ok (.bipush 10, 2) := by decide +kernel
theorem dX11_told_47 : decode cX11_told 47 = .ok (.if_icmp .lt 25, 3) := by decide +kernel
theorem dX11_told_50 : decode cX11_told 50 = .ok (.iload_n 1, 1) := by decide +kernel
theorem dX11_told_51 : decode cX11_told 51 = .ok (.bipush 13, 2) := by decide +kernel
theorem dX11_told_53 : decode cX11_told 53 = .ok (.if_icmp .ge 19, 3) := by decide +kernel
theorem dX11_told_56 : decode cX11_told 56 = .ok (.aload_n 0, 1) := by decide +kernel
theorem dX11_told_57 : decode cX11_told 57 = .ok (.getfield 21, 3) := by decide +kernel
theorem dX11_told_60 : decode cX11_told 60 = .ok (.getfield 76, 3) := by decide +kernel
theorem dX11_told_63 : decode cX11_told 63 = .ok (.getfield 90, 3) := by decide +kernel
theorem dX11_told_66 : decode cX11_told 66 = .ok (.iload_n 1, 1) := by decide +kernel
theorem dX11_told_67 : decode cX11_told 67 = .ok (.bipush 10, 2) := by decide +kernel
theorem dX11_told_69 : decode cX11_told 69 = .ok (.isub, 1) := by decide +kernel
theorem dX11_told_70 : decode cX11_told 70 = .ok (.iaload, 1) := by decide +kernel
theorem dX11_told_71 : decode cX11_told 71 = .ok (.ireturn, 1) := by decide +kernel
theorem dX11_told_72 : decode cX11_told 72 = .ok (.iload_n 1, 1) := by decide +kernel
theorem dX11_told_73 : decode cX11_told 73 = .ok (.bipush 20, 2) := by decide +kernel
theorem dX11_told_75 : decode cX11_told 75 = .ok (.if_icmp .lt 24, 3) := by decide +kernel
theorem dX11_told_78 : decode cX11_told 78 = .ok (.iload_n 1, 1) := by decide +kernel
theorem dX11_told_79 : decode cX11_told 79 = .ok (.bipush 23, 2) := by decide +kernel
theorem dX11_told_81 : decode cX11_told 81 = .ok (.if_icmp .ge 18, 3) := by decide +kernel
theorem dX11_told_84 : decode cX11_told 84 = .ok (.aload_n 0, 1) := by decide +kernel
theorem dX11_told_85 : decode cX11_told 85 = .ok (.getfield 21, 3) := by decide +kernel
theorem dX11_told_88 : decode cX11_told 88 = .ok (.getfield 93, 3) := by decide +kernel
theorem dX11_told_91 : decode cX11_told 91 = .ok (.iload_n 1, 1) := by decide +kernel
theorem dX11_told_92 : decode cX11_told 92 = .ok (.bipush 20, 2) := by decide +kernel
theorem dX11_told_94 : decode cX11_told 94 = .ok (.isub, 1) := by decide +kernel
theorem dX11_told_95 : decode cX11_told 95 = .ok (.invokestatic 96, 3) := by decide +kernel
theorem dX11_told_98 : decode cX11_told 98 = .ok (.ireturn, 1) := by decide +kernel
theorem dX11_told_99 : decode cX11_told 99 = .ok (.iload_n 1, 1) := by decide +kernel
theorem dX11_told_100 : decode cX11_told 100 = .ok (.bipush 30, 2) := by decide +kernel
theorem dX11_told_102 : decode cX11_told 102 = .ok (.if_icmp .lt 22, 3) := by decide +kernel
theorem dX11_told_105 : decode cX11_told 105 = .ok (.iload_n 1, 1) := by decide +kernel
theorem dX11_told_106 : decode cX11_told 106 = .ok (.bipush 33, 2) := by decide +kernel
theorem dX11_told_108 : decode cX11_told 108 = .ok (.if_icmp .ge 16, 3) := by decide +kernel
theorem dX11_told_111 : decode cX11_told 111 = .ok (.aload_n 0, 1) := by decide +kernel
theorem dX11_told_112 : decode cX11_told 112 = .ok (.getfield 21, 3) := by decide +kernel
theorem dX11_told_115 : decode cX11_told 115 = .ok (.getfield 51, 3) := by decide +kernel
theorem dX11_told_118 : decode cX11_told 118 = .ok (.iload_n 1, 1) := by decide +kernel
theorem dX11_told_119 : decode cX11_told 119 = .ok (.bipush 30, 2) := by decide +kernel
theorem dX11_told_121 : decode cX11_told 121 = .ok (.isub, 1) := by decide +kernel
theorem dX11_told_122 : decode cX11_told 122 = .ok (.iaload, 1) := by decide +kernel
theorem dX11_told_123 : decode cX11_told 123 = .ok (.ireturn, 1) := by decide +kernel
theorem dX11_told_124 : decode cX11_told 124 = .ok (.iconst (-1), 1) := by decide +kernel
theorem dX11_told_125 : decode cX11_told 125 = .ok (.ireturn, 1) := by decide +kernel
theorem dX11_stage_0 : decode cX11_stage 0 = .ok (.iload_n 1, 1) := by decide +kernel
theorem dX11_stage_1 : decode cX11_stage 1 = .ok (.ifCond .lt 8, 3) := by decide +kernel
theorem dX11_stage_4 : decode cX11_stage 4 = .ok (.iload_n 1, 1) := by decide +kernel
theorem dX11_stage_5 : decode cX11_stage 5 = .ok (.iconst 3, 1) := by decide +kernel
theorem dX11_stage_6 : decode cX11_stage 6 = .ok (.if_icmp .lt 5, 3) := by decide +kernel
theorem dX11_stage_9 : decode cX11_stage 9 = .ok (.iconst (-1), 1) := by decide +kernel
theorem dX11_stage_10 : decode cX11_stage 10 = .ok (.ireturn, 1) := by decide +kernel
theorem dX11_stage_11 : decode cX11_stage 11 = .ok (.iload_n 2, 1) := by decide +kernel
theorem dX11_stage_12 : decode cX11_stage 12 = .ok (.ifCond .lt 8, 3) := by decide +kernel
theorem dX11_stage_15 : decode cX11_stage 15 = .ok (.iload_n 2, 1) := by decide +kernel
theorem dX11_stage_16 : decode cX11_stage 16 = .ok (.iconst 2, 1) := by decide +kernel
theorem dX11_stage_17 : decode cX11_stage 17 = .ok (.if_icmp .le 6, 3) := by decide +kernel
theorem dX11_stage_20 : decode cX11_stage 20 = .ok (.bipush (-2), 2) := by decide +kernel
theorem dX11_stage_22 : decode cX11_stage 22 = .ok (.ireturn, 1) := by decide +kernel
theorem dX11_stage_23 : decode cX11_stage 23 = .ok (.aload_n 0, 1) := by decide +kernel
theorem dX11_stage_24 : decode cX11_stage 24 = .ok (.getfield 21, 3) := by decide +kernel
theorem dX11_stage_27 : decode cX11_stage 27 = .ok (.getfield 93, 3) := by decide +kernel
theorem dX11_stage_30 : decode cX11_stage 30 = .ok (.iload_n 1, 1) := by decide +kernel
theorem dX11_stage_31 : decode cX11_stage 31 = .ok (.invokestatic 96, 3) := by decide +kernel
theorem dX11_stage_34 : decode cX11_stage 34 = .ok (.istore_n 3, 1) := by decide +kernel
theorem dX11_stage_35 : decode cX11_stage 35 = .ok (.aload_n 0, 1) := by decide +kernel
theorem dX11_stage_36 : decode cX11_stage 36 = .ok (.getfield 21, 3) := by decide +kernel
theorem dX11_stage_39 : decode cX11_stage 39 = .ok (.dup, 1) := by decide +kernel
theorem dX11_stage_40 : decode cX11_stage 40 = .ok (.getfield 93, 3) := by decide +kernel
theorem dX11_stage_43 : decode cX11_stage 43 = .ok (.iload_n 2, 1) := by decide +kernel
theorem dX11_stage_44 : decode cX11_stage 44 = .ok (.iload_n 3, 1) := by decide +kernel
theorem dX11_stage_45 : decode cX11_stage 45 = .ok (.isub, 1) := by decide +kernel
theorem dX11_stage_46 : decode cX11_stage 46 = .ok (.getstatic 100, 3) := by decide +kernel
theorem dX11_stage_49 : decode cX11_stage 49 = .ok (.iload_n 1, 1) := by decide +kernel
theorem dX11_stage_50 : decode cX11_stage 50 = .ok (.iaload, 1) := by decide +kernel
theorem dX11_stage_51 : decode cX11_stage 51 = .ok (.imul, 1) := by decide +kernel
theorem dX11_stage_52 : decode cX11_stage 52 = .ok (.iadd, 1) := by decide +kernel
theorem dX11_stage_53 : decode cX11_stage 53 = .ok (.putfield 93, 3) := by decide +kernel
theorem dX11_stage_56 : decode cX11_stage 56 = .ok (.iload_n 3, 1) := by decide +kernel
theorem dX11_stage_57 : decode cX11_stage 57 = .ok (.ireturn, 1) := by decide +kernel
theorem dX11_worker_0 : decode cX11_worker 0 = .ok (.iload_n 1, 1) := by decide +kernel
theorem dX11_worker_1 : decode cX11_worker 1 = .ok (.ifCond .lt 9, 3) := by decide +kernel
theorem dX11_worker_4 : decode cX11_worker 4 = .ok (.iload_n 1, 1) := by decide +kernel
theorem dX11_worker_5 : decode cX11_worker 5 = .ok (.bipush 7, 2) := by decide +kernel
theorem dX11_worker_7 : decode cX11_worker 7 = .ok (.if_icmp .lt 5, 3) := by decide +kernel
theorem dX11_worker_10 : decode cX11_worker 10 = .ok (.iconst (-1), 1) := by decide +kernel
theorem dX11_worker_11 : decode cX11_worker 11 = .ok (.ireturn, 1) := by decide +kernel
theorem dX11_worker_12 : decode cX11_worker 12 = .ok (.iload_n 2, 1) := by decide +kernel
theorem dX11_worker_13 : decode cX11_worker 13 = .ok (.ifCond .lt 9, 3) := by decide +kernel
theorem dX11_worker_16 : decode cX11_worker 16 = .ok (.iload_n 2, 1) := by decide +kernel
theorem dX11_worker_17 : decode cX11_worker 17 = .ok (.bipush 9, 2) := by decide +kernel
end
section
theorem dX11_worker_19 : decode cX11_worker 19 = .ok (.if_icmp .le 6, 3) := by decide +kernel
theorem dX11_worker_22 : decode cX11_worker 22 = .ok (.bipush (-2), 2) := by decide +kernel
theorem dX11_worker_24 : decode cX11_worker 24 = .ok (.ireturn, 1) := by decide +kernel
theorem dX11_worker_25 : decode cX11_worker 25 = .ok (.aload_n 0, 1) := by decide +kernel
theorem dX11_worker_26 : decode cX11_worker 26 = .ok (.getfield 21, 3) := by decide +kernel
theorem dX11_worker_29 : decode cX11_worker 29 = .ok (.getfield 103, 3) := by decide +kernel
theorem dX11_worker_32 : decode cX11_worker 32 = .ok (.bipush 8, 2) := by decide +kernel
theorem dX11_worker_34 : decode cX11_worker 34 = .ok (.if_icmp .lt 6, 3) := by decide +kernel
theorem dX11_worker_37 : decode cX11_worker 37 = .ok (.bipush (-4), 2) := by decide +kernel
theorem dX11_worker_39 : decode cX11_worker 39 = .ok (.ireturn, 1) := by decide +kernel
theorem dX11_worker_40 : decode cX11_worker 40 = .ok (.aload_n 0, 1) := by decide +kernel
theorem dX11_worker_41 : decode cX11_worker 41 = .ok (.getfield 21, 3) := by decide +kernel
theorem dX11_worker_44 : decode cX11_worker 44 = .ok (.getfield 106, 3) := by decide +kernel
theorem dX11_worker_47 : decode cX11_worker 47 = .ok (.aload_n 0, 1) := by decide +kernel
theorem dX11_worker_48 : decode cX11_worker 48 = .ok (.getfield 21, 3) := by decide +kernel
theorem dX11_worker_51 : decode cX11_worker 51 = .ok (.getfield 103, 3) := by decide +kernel
theorem dX11_worker_54 : decode cX11_worker 54 = .ok (.iload_n 1, 1) := by decide +kernel
theorem dX11_worker_55 : decode cX11_worker 55 = .ok (.aload_n 0, 1) := by decide +kernel
theorem dX11_worker_56 : decode cX11_worker 56 = .ok (.getfield 21, 3) := by decide +kernel
theorem dX11_worker_59 : decode cX11_worker 59 = .ok (.getfield 103, 3) := by decide +kernel
theorem dX11_worker_62 : decode cX11_worker 62 = .ok (.iload_n 2, 1) := by decide +kernel
theorem dX11_worker_63 : decode cX11_worker 63 = .ok (.invokestatic 110, 3) := by decide +kernel
theorem dX11_worker_66 : decode cX11_worker 66 = .ok (.aastore, 1) := by decide +kernel
theorem dX11_worker_67 : decode cX11_worker 67 = .ok (.aload_n 0, 1) := by decide +kernel
theorem dX11_worker_68 : decode cX11_worker 68 = .ok (.getfield 21, 3) := by decide +kernel
theorem dX11_worker_71 : decode cX11_worker 71 = .ok (.dup, 1) := by decide +kernel
theorem dX11_worker_72 : decode cX11_worker 72 = .ok (.getfield 103, 3) := by decide +kernel
theorem dX11_worker_75 : decode cX11_worker 75 = .ok (.iconst 1, 1) := by decide +kernel
theorem dX11_worker_76 : decode cX11_worker 76 = .ok (.iadd, 1) := by decide +kernel
theorem dX11_worker_77 : decode cX11_worker 77 = .ok (.putfield 103, 3) := by decide +kernel
theorem dX11_worker_80 : decode cX11_worker 80 = .ok (.aload_n 0, 1) := by decide +kernel
theorem dX11_worker_81 : decode cX11_worker 81 = .ok (.getfield 21, 3) := by decide +kernel
theorem dX11_worker_84 : decode cX11_worker 84 = .ok (.getfield 103, 3) := by decide +kernel
theorem dX11_worker_87 : decode cX11_worker 87 = .ok (.iconst 1, 1) := by decide +kernel
theorem dX11_worker_88 : decode cX11_worker 88 = .ok (.isub, 1) := by decide +kernel
theorem dX11_worker_89 : decode cX11_worker 89 = .ok (.ireturn, 1) := by decide +kernel
theorem dX11_row_0 : decode cX11_row 0 = .ok (.aload_n 0, 1) := by decide +kernel
theorem dX11_row_1 : decode cX11_row 1 = .ok (.iload_n 1, 1) := by decide +kernel
theorem dX11_row_2 : decode cX11_row 2 = .ok (.invokevirtual 114, 3) := by decide +kernel
theorem dX11_row_5 : decode cX11_row 5 = .ok (.astore 4, 2) := by decide +kernel
theorem dX11_row_7 : decode cX11_row 7 = .ok (.aload 4, 2) := by decide +kernel
theorem dX11_row_9 : decode cX11_row 9 = .ok (.ifnull 10, 3) := by decide +kernel
theorem dX11_row_12 : decode cX11_row 12 = .ok (.iload_n 2, 1) := by decide +kernel
theorem dX11_row_13 : decode cX11_row 13 = .ok (.invokestatic 118, 3) := by decide +kernel
theorem dX11_row_16 : decode cX11_row 16 = .ok (.ifCond .ne 5, 3) := by decide +kernel
theorem dX11_row_19 : decode cX11_row 19 = .ok (.iconst (-1), 1) := by decide +kernel
theorem dX11_row_20 : decode cX11_row 20 = .ok (.ireturn, 1) := by decide +kernel
theorem dX11_row_21 : decode cX11_row 21 = .ok (.iload_n 3, 1) := by decide +kernel
theorem dX11_row_22 : decode cX11_row 22 = .ok (.ifCond .lt 8, 3) := by decide +kernel
theorem dX11_row_25 : decode cX11_row 25 = .ok (.iload_n 3, 1) := by decide +kernel
theorem dX11_row_26 : decode cX11_row 26 = .ok (.iconst 3, 1) := by decide +kernel
theorem dX11_row_27 : decode cX11_row 27 = .ok (.if_icmp .le 6, 3) := by decide +kernel
theorem dX11_row_30 : decode cX11_row 30 = .ok (.bipush (-2), 2) := by decide +kernel
theorem dX11_row_32 : decode cX11_row 32 = .ok (.ireturn, 1) := by decide +kernel
theorem dX11_row_33 : decode cX11_row 33 = .ok (.aload 4, 2) := by decide +kernel
theorem dX11_row_35 : decode cX11_row 35 = .ok (.instanceof 122, 3) := by decide +kernel
theorem dX11_row_38 : decode cX11_row 38 = .ok (.ifCond .eq 33, 3) := by decide +kernel
theorem dX11_row_41 : decode cX11_row 41 = .ok (.aload 4, 2) := by decide +kernel
theorem dX11_row_43 : decode cX11_row 43 = .ok (.checkcast 122, 3) := by decide +kernel
theorem dX11_row_46 : decode cX11_row 46 = .ok (.astore 5, 2) := by decide +kernel
theorem dX11_row_48 : decode cX11_row 48 = .ok (.aload_n 0, 1) := by decide +kernel
theorem dX11_row_49 : decode cX11_row 49 = .ok (.getfield 21, 3) := by decide +kernel
theorem dX11_row_52 : decode cX11_row 52 = .ok (.getfield 106, 3) := by decide +kernel
theorem dX11_row_55 : decode cX11_row 55 = .ok (.iload_n 1, 1) := by decide +kernel
theorem dX11_row_56 : decode cX11_row 56 = .ok (.aload 5, 2) := by decide +kernel
theorem dX11_row_58 : decode cX11_row 58 = .ok (.iload_n 2, 1) := by decide +kernel
theorem dX11_row_59 : decode cX11_row 59 = .ok (.iload_n 3, 1) := by decide +kernel
theorem dX11_row_60 : decode cX11_row 60 = .ok (.invokevirtual 124, 3) := by decide +kernel
theorem dX11_row_63 : decode cX11_row 63 = .ok (.aastore, 1) := by decide +kernel
theorem dX11_row_64 : decode cX11_row 64 = .ok (.aload 5, 2) := by decide +kernel
theorem dX11_row_66 : decode cX11_row 66 = .ok (.iload_n 2, 1) := by decide +kernel
theorem dX11_row_67 : decode cX11_row 67 = .ok (.invokevirtual 128, 3) := by decide +kernel
theorem dX11_row_70 : decode cX11_row 70 = .ok (.ireturn, 1) := by decide +kernel
theorem dX11_row_71 : decode cX11_row 71 = .ok (.bipush (-3), 2) := by decide +kernel
theorem dX11_row_73 : decode cX11_row 73 = .ok (.ireturn, 1) := by decide +kernel
theorem dX11_of_0 : decode cX11_of 0 = .ok (.aload_n 0, 1) := by decide +kernel
theorem dX11_of_1 : decode cX11_of 1 = .ok (.iload_n 1, 1) := by decide +kernel
theorem dX11_of_2 : decode cX11_of 2 = .ok (.invokevirtual 114, 3) := by decide +kernel
theorem dX11_of_5 : decode cX11_of 5 = .ok (.astore_n 3, 1) := by decide +kernel
theorem dX11_of_6 : decode cX11_of 6 = .ok (.aload_n 3, 1) := by decide +kernel
theorem dX11_of_7 : decode cX11_of 7 = .ok (.ifnonnull 5, 3) := by decide +kernel
theorem dX11_of_10 : decode cX11_of 10 = .ok (.iconst (-1), 1) := by decide +kernel
theorem dX11_of_11 : decode cX11_of 11 = .ok (.ireturn, 1) := by decide +kernel
theorem dX11_of_12 : decode cX11_of 12 = .ok (.iload_n 2, 1) := by decide +kernel
theorem dX11_of_13 : decode cX11_of 13 = .ok (.ifCond .ne 8, 3) := by decide +kernel
theorem dX11_of_16 : decode cX11_of 16 = .ok (.aload_n 3, 1) := by decide +kernel
theorem dX11_of_17 : decode cX11_of 17 = .ok (.getfield 132, 3) := by decide +kernel
theorem dX11_of_20 : decode cX11_of 20 = .ok (.ireturn, 1) := by decide +kernel
theorem dX11_of_21 : decode cX11_of 21 = .ok (.iload_n 2, 1) := by decide +kernel
theorem dX11_of_22 : decode cX11_of 22 = .ok (.iconst 1, 1) := by decide +kernel
theorem dX11_of_23 : decode cX11_of 23 = .ok (.if_icmp .ne 8, 3) := by decide +kernel
theorem dX11_of_26 : decode cX11_of 26 = .ok (.aload_n 3, 1) := by decide +kernel
theorem dX11_of_27 : decode cX11_of 27 = .ok (.getfield 137, 3) := by decide +kernel
theorem dX11_of_30 : decode cX11_of 30 = .ok (.ireturn, 1) := by decide +kernel
theorem dX11_of_31 : decode cX11_of 31 = .ok (.iload_n 2, 1) := by decide +kernel
theorem dX11_of_32 : decode cX11_of 32 = .ok (.bipush 10, 2) := by decide +kernel
theorem dX11_of_34 : decode cX11_of 34 = .ok (.isub, 1) := by decide +kernel
theorem dX11_of_35 : decode cX11_of 35 = .ok (.invokestatic 118, 3) := by decide +kernel
theorem dX11_of_38 : decode cX11_of 38 = .ok (.ifCond .ne 5, 3) := by decide +kernel
theorem dX11_of_41 : decode cX11_of 41 = .ok (.iconst (-1), 1) := by decide +kernel
theorem dX11_of_42 : decode cX11_of 42 = .ok (.ireturn, 1) := by decide +kernel
theorem dX11_of_43 : decode cX11_of 43 = .ok (.aload_n 0, 1) := by decide +kernel
theorem dX11_of_44 : decode cX11_of 44 = .ok (.getfield 21, 3) := by decide +kernel
theorem dX11_of_47 : decode cX11_of 47 = .ok (.getfield 51, 3) := by decide +kernel
theorem dX11_of_50 : decode cX11_of 50 = .ok (.iload_n 2, 1) := by decide +kernel
theorem dX11_of_51 : decode cX11_of 51 = .ok (.bipush 10, 2) := by decide +kernel
theorem dX11_of_53 : decode cX11_of 53 = .ok (.isub, 1) := by decide +kernel
theorem dX11_of_54 : decode cX11_of 54 = .ok (.iaload, 1) := by decide +kernel
theorem dX11_of_55 : decode cX11_of 55 = .ok (.ifCond .ne 8, 3) := by decide +kernel
theorem dX11_of_58 : decode cX11_of 58 = .ok (.bipush (-5), 2) := by decide +kernel
theorem dX11_of_60 : decode cX11_of 60 = .ok (.goto 15, 3) := by decide +kernel
theorem dX11_of_63 : decode cX11_of 63 = .ok (.aload_n 0, 1) := by decide +kernel
theorem dX11_of_64 : decode cX11_of 64 = .ok (.aload_n 3, 1) := by decide +kernel
theorem dX11_of_65 : decode cX11_of 65 = .ok (.iload_n 2, 1) := by decide +kernel
theorem dX11_of_66 : decode cX11_of 66 = .ok (.bipush 10, 2) := by decide +kernel
theorem dX11_of_68 : decode cX11_of 68 = .ok (.isub, 1) := by decide +kernel
theorem dX11_of_69 : decode cX11_of 69 = .ok (.invokevirtual 140, 3) := by decide +kernel
theorem dX11_of_72 : decode cX11_of 72 = .ok (.invokestatic 144, 3) := by decide +kernel
theorem dX11_of_75 : decode cX11_of 75 = .ok (.ireturn, 1) := by decide +kernel
theorem dX11_draw_0 : decode cX11_draw 0 = .ok (.aload_n 0, 1) := by decide +kernel
theorem dX11_draw_1 : decode cX11_draw 1 = .ok (.iload_n 1, 1) := by decide +kernel
theorem dX11_draw_2 : decode cX11_draw 2 = .ok (.invokevirtual 114, 3) := by decide +kernel
theorem dX11_draw_5 : decode cX11_draw 5 = .ok (.astore_n 3, 1) := by decide +kernel
theorem dX11_draw_6 : decode cX11_draw 6 = .ok (.aload_n 3, 1) := by decide +kernel
theorem dX11_draw_7 : decode cX11_draw 7 = .ok (.ifnull 10, 3) := by decide +kernel
theorem dX11_draw_10 : decode cX11_draw 10 = .ok (.iload_n 2, 1) := by decide +kernel
theorem dX11_draw_11 : decode cX11_draw 11 = .ok (.invokestatic 118, 3) := by decide +kernel
theorem dX11_draw_14 : decode cX11_draw 14 = .ok (.ifCond .ne 7, 3) := by decide +kernel
theorem dX11_draw_17 : decode cX11_draw 17 = .ok (.sipush (-1001), 3) := by decide +kernel
theorem dX11_draw_20 : decode cX11_draw 20 = .ok (.ireturn, 1) := by decide +kernel
theorem dX11_draw_21 : decode cX11_draw 21 = .ok (.aload_n 0, 1) := by decide +kernel
theorem dX11_draw_22 : decode cX11_draw 22 = .ok (.getfield 21, 3) := by decide +kernel
theorem dX11_draw_25 : decode cX11_draw 25 = .ok (.getfield 51, 3) := by decide +kernel
theorem dX11_draw_28 : decode cX11_draw 28 = .ok (.iload_n 2, 1) := by decide +kernel
theorem dX11_draw_29 : decode cX11_draw 29 = .ok (.iaload, 1) := by decide +kernel
theorem dX11_draw_30 : decode cX11_draw 30 = .ok (.ifCond .eq 15, 3) := by decide +kernel
theorem dX11_draw_33 : decode cX11_draw 33 = .ok (.aload_n 0, 1) := by decide +kernel
theorem dX11_draw_34 : decode cX11_draw 34 = .ok (.getfield 21, 3) := by decide +kernel
theorem dX11_draw_37 : decode cX11_draw 37 = .ok (.getfield 83, 3) := by decide +kernel
theorem dX11_draw_40 : decode cX11_draw 40 = .ok (.bipush 99, 2) := by decide +kernel
theorem dX11_draw_42 : decode cX11_draw 42 = .ok (.if_icmp .lt 7, 3) := by decide +kernel
theorem dX11_draw_45 : decode cX11_draw 45 = .ok (.sipush (-1002), 3) := by decide +kernel
theorem dX11_draw_48 : decode cX11_draw 48 = .ok (.ireturn, 1) := by decide +kernel
theorem dX11_draw_49 : decode cX11_draw 49 = .ok (.aload_n 0, 1) := by decide +kernel
theorem dX11_draw_50 : decode cX11_draw 50 = .ok (.aload_n 3, 1) := by decide +kernel
theorem dX11_draw_51 : decode cX11_draw 51 = .ok (.iload_n 2, 1) := by decide +kernel
theorem dX11_draw_52 : decode cX11_draw 52 = .ok (.invokevirtual 140, 3) := by decide +kernel
theorem dX11_draw_55 : decode cX11_draw 55 = .ok (.istore 4, 2) := by decide +kernel
theorem dX11_draw_57 : decode cX11_draw 57 = .ok (.aload_n 0, 1) := by decide +kernel
theorem dX11_draw_58 : decode cX11_draw 58 = .ok (.getfield 21, 3) := by decide +kernel
theorem dX11_draw_61 : decode cX11_draw 61 = .ok (.getfield 76, 3) := by decide +kernel
theorem dX11_draw_64 : decode cX11_draw 64 = .ok (.iload 4, 2) := by decide +kernel
theorem dX11_draw_66 : decode cX11_draw 66 = .ok (.aload_n 0, 1) := by decide +kernel
theorem dX11_draw_67 : decode cX11_draw 67 = .ok (.getfield 21, 3) := by decide +kernel
theorem dX11_draw_70 : decode cX11_draw 70 = .ok (.getfield 93, 3) := by decide +kernel
theorem dX11_draw_73 : decode cX11_draw 73 = .ok (.invokevirtual 147, 3) := by decide +kernel
theorem dX11_draw_76 : decode cX11_draw 76 = .ok (.istore 5, 2) := by decide +kernel
theorem dX11_draw_78 : decode cX11_draw 78 = .ok (.aload_n 0, 1) := by decide +kernel
theorem dX11_draw_79 : decode cX11_draw 79 = .ok (.getfield 21, 3) := by decide +kernel
theorem dX11_draw_82 : decode cX11_draw 82 = .ok (.iload 4, 2) := by decide +kernel
theorem dX11_draw_84 : decode cX11_draw 84 = .ok (.aload_n 0, 1) := by decide +kernel
theorem dX11_draw_85 : decode cX11_draw 85 = .ok (.getfield 21, 3) := by decide +kernel
theorem dX11_draw_88 : decode cX11_draw 88 = .ok (.getfield 93, 3) := by decide +kernel
theorem dX11_draw_91 : decode cX11_draw 91 = .ok (.invokestatic 150, 3) := by decide +kernel
theorem dX11_draw_94 : decode cX11_draw 94 = .ok (.putfield 93, 3) := by decide +kernel
theorem dX11_draw_97 : decode cX11_draw 97 = .ok (.aload_n 0, 1) := by decide +kernel
theorem dX11_draw_98 : decode cX11_draw 98 = .ok (.getfield 21, 3) := by decide +kernel
theorem dX11_draw_101 : decode cX11_draw 101 = .ok (.getfield 51, 3) := by decide +kernel
theorem dX11_draw_104 : decode cX11_draw 104 = .ok (.iload_n 2, 1) := by decide +kernel
theorem dX11_draw_105 : decode cX11_draw 105 = .ok (.dup2, 1) := by decide +kernel
theorem dX11_draw_106 : decode cX11_draw 106 = .ok (.iaload, 1) := by decide +kernel
theorem dX11_draw_107 : decode cX11_draw 107 = .ok (.iconst 1, 1) := by decide +kernel
theorem dX11_draw_108 : decode cX11_draw 108 = .ok (.isub, 1) := by decide +kernel
theorem dX11_draw_109 : decode cX11_draw 109 = .ok (.iastore, 1) := by decide +kernel
theorem dX11_draw_110 : decode cX11_draw 110 = .ok (.aload_n 0, 1) := by decide +kernel
theorem dX11_draw_111 : decode cX11_draw 111 = .ok (.getfield 21, 3) := by decide +kernel
theorem dX11_draw_114 : decode cX11_draw 114 = .ok (.dup, 1) := by decide +kernel
theorem dX11_draw_115 : decode cX11_draw 115 = .ok (.getfield 83, 3) := by decide +kernel
theorem dX11_draw_118 : decode cX11_draw 118 = .ok (.iconst 1, 1) := by decide +kernel
theorem dX11_draw_119 : decode cX11_draw 119 = .ok (.iadd, 1) := by decide +kernel
theorem dX11_draw_120 : decode cX11_draw 120 = .ok (.putfield 83, 3) := by decide +kernel
theorem dX11_draw_123 : decode cX11_draw 123 = .ok (.iload 5, 2) := by decide +kernel
theorem dX11_draw_125 : decode cX11_draw 125 = .ok (.ireturn, 1) := by decide +kernel
theorem dX11_next_0 : decode cX11_next 0 = .ok (.iload_n 1, 1) := by decide +kernel
theorem dX11_next_1 : decode cX11_next 1 = .ok (.invokestatic 118, 3) := by decide +kernel
theorem dX11_next_4 : decode cX11_next 4 = .ok (.ifCond .eq 10, 3) := by decide +kernel
theorem dX11_next_7 : decode cX11_next 7 = .ok (.iload_n 2, 1) := by decide +kernel
theorem dX11_next_8 : decode cX11_next 8 = .ok (.invokestatic 153, 3) := by decide +kernel
theorem dX11_next_11 : decode cX11_next 11 = .ok (.ifCond .ne 7, 3) := by decide +kernel
theorem dX11_next_14 : decode cX11_next 14 = .ok (.ldc2_w 156, 3) := by decide +kernel
theorem dX11_next_17 : decode cX11_next 17 = .ok (.lreturn, 1) := by decide +kernel
theorem dX11_next_18 : decode cX11_next 18 = .ok (.aload_n 0, 1) := by decide +kernel
theorem dX11_next_19 : decode cX11_next 19 = .ok (.getfield 21, 3) := by decide +kernel
theorem dX11_next_22 : decode cX11_next 22 = .ok (.getfield 51, 3) := by decide +kernel
theorem dX11_next_25 : decode cX11_next 25 = .ok (.iload_n 1, 1) := by decide +kernel
theorem dX11_next_26 : decode cX11_next 26 = .ok (.iaload, 1) := by decide +kernel
theorem dX11_next_27 : decode cX11_next 27 = .ok (.i2l, 1) := by decide +kernel
theorem dX11_next_28 : decode cX11_next 28 = .ok (.iconst 1, 1) := by decide +kernel
theorem dX11_next_29 : decode cX11_next 29 = .ok (.aload_n 0, 1) := by decide +kernel
theorem dX11_next_30 : decode cX11_next 30 = .ok (.getfield 21, 3) := by decide +kernel
theorem dX11_next_33 : decode cX11_next 33 = .ok (.getfield 51, 3) := by decide +kernel
theorem dX11_next_36 : decode cX11_next 36 = .ok (.invokestatic 86, 3) := by decide +kernel
theorem dX11_next_39 : decode cX11_next 39 = .ok (.invokestatic 158, 3) := by decide +kernel
theorem dX11_next_42 : decode cX11_next 42 = .ok (.i2l, 1) := by decide +kernel
theorem dX11_next_43 : decode cX11_next 43 = .ok (.iload_n 2, 1) := by decide +kernel
theorem dX11_next_44 : decode cX11_next 44 = .ok (.invokestatic 163, 3) := by decide +kernel
theorem dX11_next_47 : decode cX11_next 47 = .ok (.lreturn, 1) := by decide +kernel
theorem dX11_run_0 : decode cX11_run 0 = .ok (.iload_n 1, 1) := by decide +kernel
theorem dX11_run_1 : decode cX11_run 1 = .ok (.invokestatic 118, 3) := by decide +kernel
theorem dX11_run_4 : decode cX11_run 4 = .ok (.ifCond .eq 20, 3) := by decide +kernel
theorem dX11_run_7 : decode cX11_run 7 = .ok (.iload_n 3, 1) := by decide +kernel
theorem dX11_run_8 : decode cX11_run 8 = .ok (.invokestatic 153, 3) := by decide +kernel
theorem dX11_run_11 : decode cX11_run 11 = .ok (.ifCond .eq 13, 3) := by decide +kernel
theorem dX11_run_14 : decode cX11_run 14 = .ok (.iload_n 2, 1) := by decide +kernel
theorem dX11_run_15 : decode cX11_run 15 = .ok (.iconst 1, 1) := by decide +kernel
theorem dX11_run_16 : decode cX11_run 16 = .ok (.if_icmp .lt 8, 3) := by decide +kernel
theorem dX11_run_19 : decode cX11_run 19 = .ok (.iload_n 2, 1) := by decide +kernel
theorem dX11_run_20 : decode cX11_run 20 = .ok (.iconst 5, 1) := by decide +kernel
theorem dX11_run_21 : decode cX11_run 21 = .ok (.if_icmp .le 7, 3) := by decide +kernel
theorem dX11_run_24 : decode cX11_run 24 = .ok (.ldc2_w 156, 3) := by decide +kernel
theorem dX11_run_27 : decode cX11_run 27 = .ok (.lreturn, 1) := by decide +kernel
theorem dX11_run_28 : decode cX11_run 28 = .ok (.aload_n 0, 1) := by decide +kernel
theorem dX11_run_29 : decode cX11_run 29 = .ok (.getfield 21, 3) := by decide +kernel
theorem dX11_run_32 : decode cX11_run 32 = .ok (.getfield 51, 3) := by decide +kernel
theorem dX11_run_35 : decode cX11_run 35 = .ok (.invokestatic 86, 3) := by decide +kernel
theorem dX11_run_38 : decode cX11_run 38 = .ok (.istore 4, 2) := by decide +kernel
theorem dX11_run_40 : decode cX11_run 40 = .ok (.aload_n 0, 1) := by decide +kernel
theorem dX11_run_41 : decode cX11_run 41 = .ok (.getfield 21, 3) := by decide +kernel
theorem dX11_run_44 : decode cX11_run 44 = .ok (.getfield 51, 3) := by decide +kernel
theorem dX11_run_47 : decode cX11_run 47 = .ok (.iload_n 1, 1) := by decide +kernel
theorem dX11_run_48 : decode cX11_run 48 = .ok (.iaload, 1) := by decide +kernel
theorem dX11_run_49 : decode cX11_run 49 = .ok (.iload_n 2, 1) := by decide +kernel
theorem dX11_run_50 : decode cX11_run 50 = .ok (.invokestatic 167, 3) := by decide +kernel
theorem dX11_run_53 : decode cX11_run 53 = .ok (.i2l, 1) := by decide +kernel
theorem dX11_run_54 : decode cX11_run 54 = .ok (.iconst 1, 1) := by decide +kernel
theorem dX11_run_55 : decode cX11_run 55 = .ok (.iload 4, 2) := by decide +kernel
theorem dX11_run_57 : decode cX11_run 57 = .ok (.iload_n 2, 1) := by decide +kernel
theorem dX11_run_58 : decode cX11_run 58 = .ok (.invokestatic 167, 3) := by decide +kernel
theorem dX11_run_61 : decode cX11_run 61 = .ok (.invokestatic 158, 3) := by decide +kernel
theorem dX11_run_64 : decode cX11_run 64 = .ok (.i2l, 1) := by decide +kernel
theorem dX11_run_65 : decode cX11_run 65 = .ok (.iload_n 3, 1) := by decide +kernel
theorem dX11_run_66 : decode cX11_run 66 = .ok (.invokestatic 163, 3) := by decide +kernel
theorem dX11_run_69 : decode cX11_run 69 = .ok (.lreturn, 1) := by decide +kernel
theorem dX11_by_0 : decode cX11_by 0 = .ok (.iload_n 1, 1) := by decide +kernel
theorem dX11_by_1 : decode cX11_by 1 = .ok (.invokestatic 118, 3) := by decide +kernel
theorem dX11_by_4 : decode cX11_by 4 = .ok (.ifCond .eq 31, 3) := by decide +kernel
theorem dX11_by_7 : decode cX11_by 7 = .ok (.iload 4, 2) := by decide +kernel
theorem dX11_by_9 : decode cX11_by 9 = .ok (.invokestatic 153, 3) := by decide +kernel
theorem dX11_by_12 : decode cX11_by 12 = .ok (.ifCond .eq 23, 3) := by decide +kernel
theorem dX11_by_15 : decode cX11_by 15 = .ok (.iload_n 2, 1) := by decide +kernel
theorem dX11_by_16 : decode cX11_by 16 = .ok (.iconst 1, 1) := by decide +kernel
theorem dX11_by_17 : decode cX11_by 17 = .ok (.if_icmp .lt 18, 3) := by decide +kernel
theorem dX11_by_20 : decode cX11_by 20 = .ok (.iload_n 2, 1) := by decide +kernel
theorem dX11_by_21 : decode cX11_by 21 = .ok (.bipush 15, 2) := by decide +kernel
theorem dX11_by_23 : decode cX11_by 23 = .ok (.if_icmp .gt 12, 3) := by decide +kernel
theorem dX11_by_26 : decode cX11_by 26 = .ok (.iload_n 3, 1) := by decide +kernel
theorem dX11_by_27 : decode cX11_by 27 = .ok (.ifCond .lt 8, 3) := by decide +kernel
theorem dX11_by_30 : decode cX11_by 30 = .ok (.iload_n 3, 1) := by decide +kernel
theorem dX11_by_31 : decode cX11_by 31 = .ok (.iconst 5, 1) := by decide +kernel
theorem dX11_by_32 : decode cX11_by 32 = .ok (.if_icmp .le 7, 3) := by decide +kernel
theorem dX11_by_35 : decode cX11_by 35 = .ok (.ldc2_w 156, 3) := by decide +kernel
theorem dX11_by_38 : decode cX11_by 38 = .ok (.lreturn, 1) := by decide +kernel
theorem dX11_by_39 : decode cX11_by 39 = .ok (.aload_n 0, 1) := by decide +kernel
theorem dX11_by_40 : decode cX11_by 40 = .ok (.getfield 21, 3) := by decide +kernel
theorem dX11_by_43 : decode cX11_by 43 = .ok (.getfield 51, 3) := by decide +kernel
theorem dX11_by_46 : decode cX11_by 46 = .ok (.invokestatic 86, 3) := by decide +kernel
theorem dX11_by_49 : decode cX11_by 49 = .ok (.istore 5, 2) := by decide +kernel
theorem dX11_by_51 : decode cX11_by 51 = .ok (.iload_n 2, 1) := by decide +kernel
theorem dX11_by_52 : decode cX11_by 52 = .ok (.iload 5, 2) := by decide +kernel
theorem dX11_by_54 : decode cX11_by 54 = .ok (.if_icmp .le 7, 3) := by decide +kernel
theorem dX11_by_57 : decode cX11_by 57 = .ok (.ldc2_w 156, 3) := by decide +kernel
theorem dX11_by_60 : decode cX11_by 60 = .ok (.lreturn, 1) := by decide +kernel
theorem dX11_by_61 : decode cX11_by 61 = .ok (.aload_n 0, 1) := by decide +kernel
theorem dX11_by_62 : decode cX11_by 62 = .ok (.getfield 21, 3) := by decide +kernel
theorem dX11_by_65 : decode cX11_by 65 = .ok (.getfield 51, 3) := by decide +kernel
theorem dX11_by_68 : decode cX11_by 68 = .ok (.iload_n 1, 1) := by decide +kernel
theorem dX11_by_69 : decode cX11_by 69 = .ok (.iaload, 1) := by decide +kernel
theorem dX11_by_70 : decode cX11_by 70 = .ok (.istore 6, 2) := by decide +kernel
theorem dX11_by_72 : decode cX11_by 72 = .ok (.lconst 0, 1) := by decide +kernel
theorem dX11_by_73 : decode cX11_by 73 = .ok (.lstore 7, 2) := by decide +kernel
theorem dX11_by_75 : decode cX11_by 75 = .ok (.iload_n 3, 1) := by decide +kernel
theorem dX11_by_76 : decode cX11_by 76 = .ok (.istore 9, 2) := by decide +kernel
theorem dX11_by_78 : decode cX11_by 78 = .ok (.iload 9, 2) := by decide +kernel
theorem dX11_by_80 : decode cX11_by 80 = .ok (.iload 6, 2) := by decide +kernel
theorem dX11_by_82 : decode cX11_by 82 = .ok (.if_icmp .gt 36, 3) := by decide +kernel
theorem dX11_by_85 : decode cX11_by 85 = .ok (.lload 7, 2) := by decide +kernel
theorem dX11_by_87 : decode cX11_by 87 = .ok (.iload 6, 2) := by decide +kernel
theorem dX11_by_89 : decode cX11_by 89 = .ok (.iload 9, 2) := by decide +kernel
theorem dX11_by_91 : decode cX11_by 91 = .ok (.invokestatic 167, 3) := by decide +kernel
theorem dX11_by_94 : decode cX11_by 94 = .ok (.i2l, 1) := by decide +kernel
theorem dX11_by_95 : decode cX11_by 95 = .ok (.iload 5, 2) := by decide +kernel
theorem dX11_by_97 : decode cX11_by 97 = .ok (.iload 6, 2) := by decide +kernel
theorem dX11_by_99 : decode cX11_by 99 = .ok (.isub, 1) := by decide +kernel
theorem dX11_by_100 : decode cX11_by 100 = .ok (.iload_n 2, 1) := by decide +kernel
theorem dX11_by_101 : decode cX11_by 101 = .ok (.iload 9, 2) := by decide +kernel
theorem dX11_by_103 : decode cX11_by 103 = .ok (.isub, 1) := by decide +kernel
theorem dX11_by_104 : decode cX11_by 104 = .ok (.invokestatic 167, 3) := by decide +kernel
theorem dX11_by_107 : decode cX11_by 107 = .ok (.i2l, 1) := by decide +kernel
theorem dX11_by_108 : decode cX11_by 108 = .ok (.lmul, 1) := by decide +kernel
theorem dX11_by_109 : decode cX11_by 109 = .ok (.ladd, 1) := by decide +kernel
theorem dX11_by_110 : decode cX11_by 110 = .ok (.lstore 7, 2) := by decide +kernel
theorem dX11_by_112 : decode cX11_by 112 = .ok (.iinc 9 1, 3) := by decide +kernel
theorem dX11_by_115 : decode cX11_by 115 = .ok (.goto (-37), 3) := by decide +kernel
theorem dX11_by_118 : decode cX11_by 118 = .ok (.lload 7, 2) := by decide +kernel
theorem dX11_by_120 : decode cX11_by 120 = .ok (.iload 5, 2) := by decide +kernel
theorem dX11_by_122 : decode cX11_by 122 = .ok (.iload_n 2, 1) := by decide +kernel
theorem dX11_by_123 : decode cX11_by 123 = .ok (.invokestatic 167, 3) := by decide +kernel
theorem dX11_by_126 : decode cX11_by 126 = .ok (.i2l, 1) := by decide +kernel
theorem dX11_by_127 : decode cX11_by 127 = .ok (.iload 4, 2) := by decide +kernel
theorem dX11_by_129 : decode cX11_by 129 = .ok (.invokestatic 163, 3) := by decide +kernel
theorem dX11_by_132 : decode cX11_by 132 = .ok (.lreturn, 1) := by decide +kernel
theorem dX11_first_0 : decode cX11_first 0 = .ok (.iload_n 1, 1) := by decide +kernel
theorem dX11_first_1 : decode cX11_first 1 = .ok (.invokestatic 118, 3) := by decide +kernel
theorem dX11_first_4 : decode cX11_first 4 = .ok (.ifCond .eq 22, 3) := by decide +kernel
theorem dX11_first_7 : decode cX11_first 7 = .ok (.iload_n 2, 1) := by decide +kernel
theorem dX11_first_8 : decode cX11_first 8 = .ok (.invokestatic 153, 3) := by decide +kernel
theorem dX11_first_11 : decode cX11_first 11 = .ok (.ifCond .eq 15, 3) := by decide +kernel
theorem dX11_first_14 : decode cX11_first 14 = .ok (.aload_n 0, 1) := by decide +kernel
theorem dX11_first_15 : decode cX11_first 15 = .ok (.getfield 21, 3) := by decide +kernel
theorem dX11_first_18 : decode cX11_first 18 = .ok (.getfield 51, 3) := by decide +kernel
theorem dX11_first_21 : decode cX11_first 21 = .ok (.iload_n 1, 1) := by decide +kernel
theorem dX11_first_22 : decode cX11_first 22 = .ok (.iaload, 1) := by decide +kernel
theorem dX11_first_23 : decode cX11_first 23 = .ok (.ifCond .ne 7, 3) := by decide +kernel
theorem dX11_first_26 : decode cX11_first 26 = .ok (.ldc2_w 156, 3) := by decide +kernel
theorem dX11_first_29 : decode cX11_first 29 = .ok (.lreturn, 1) := by decide +kernel
theorem dX11_first_30 : decode cX11_first 30 = .ok (.aload_n 0, 1) := by decide +kernel
theorem dX11_first_31 : decode cX11_first 31 = .ok (.getfield 21, 3) := by decide +kernel
theorem dX11_first_34 : decode cX11_first 34 = .ok (.getfield 51, 3) := by decide +kernel
theorem dX11_first_37 : decode cX11_first 37 = .ok (.invokestatic 86, 3) := by decide +kernel
theorem dX11_first_40 : decode cX11_first 40 = .ok (.iconst 1, 1) := by decide +kernel
theorem dX11_first_41 : decode cX11_first 41 = .ok (.iadd, 1) := by decide +kernel
theorem dX11_first_42 : decode cX11_first 42 = .ok (.i2l, 1) := by decide +kernel
theorem dX11_first_43 : decode cX11_first 43 = .ok (.aload_n 0, 1) := by decide +kernel
theorem dX11_first_44 : decode cX11_first 44 = .ok (.getfield 21, 3) := by decide +kernel
theorem dX11_first_47 : decode cX11_first 47 = .ok (.getfield 51, 3) := by decide +kernel
theorem dX11_first_50 : decode cX11_first 50 = .ok (.iload_n 1, 1) := by decide +kernel
theorem dX11_first_51 : decode cX11_first 51 = .ok (.iaload, 1) := by decide +kernel
theorem dX11_first_52 : decode cX11_first 52 = .ok (.iconst 1, 1) := by decide +kernel
theorem dX11_first_53 : decode cX11_first 53 = .ok (.iadd, 1) := by decide +kernel
theorem dX11_first_54 : decode cX11_first 54 = .ok (.i2l, 1) := by decide +kernel
theorem dX11_first_55 : decode cX11_first 55 = .ok (.iload_n 2, 1) := by decide +kernel
theorem dX11_first_56 : decode cX11_first 56 = .ok (.invokestatic 163, 3) := by decide +kernel
theorem dX11_first_59 : decode cX11_first 59 = .ok (.lreturn, 1) := by decide +kernel
theorem dX11_before_0 : decode cX11_before 0 = .ok (.iload_n 1, 1) := by decide +kernel
theorem dX11_before_1 : decode cX11_before 1 = .ok (.invokestatic 118, 3) := by decide +kernel
theorem dX11_before_4 : decode cX11_before 4 = .ok (.ifCond .eq 22, 3) := by decide +kernel
theorem dX11_before_7 : decode cX11_before 7 = .ok (.iload_n 2, 1) := by decide +kernel
theorem dX11_before_8 : decode cX11_before 8 = .ok (.invokestatic 118, 3) := by decide +kernel
theorem dX11_before_11 : decode cX11_before 11 = .ok (.ifCond .eq 15, 3) := by decide +kernel
theorem dX11_before_14 : decode cX11_before 14 = .ok (.iload_n 3, 1) := by decide +kernel
theorem dX11_before_15 : decode cX11_before 15 = .ok (.invokestatic 153, 3) := by decide +kernel
theorem dX11_before_18 : decode cX11_before 18 = .ok (.ifCond .eq 8, 3) := by decide +kernel
theorem dX11_before_21 : decode cX11_before 21 = .ok (.iload_n 1, 1) := by decide +kernel
theorem dX11_before_22 : decode cX11_before 22 = .ok (.iload_n 2, 1) := by decide +kernel
theorem dX11_before_23 : decode cX11_before 23 = .ok (.if_icmp .ne 7, 3) := by decide +kernel
theorem dX11_before_26 : decode cX11_before 26 = .ok (.ldc2_w 156, 3) := by decide +kernel
theorem dX11_before_29 : decode cX11_before 29 = .ok (.lreturn, 1) := by decide +kernel
theorem dX11_before_30 : decode cX11_before 30 = .ok (.aload_n 0, 1) := by decide +kernel
theorem dX11_before_31 : decode cX11_before 31 = .ok (.getfield 21, 3) := by decide +kernel
theorem dX11_before_34 : decode cX11_before 34 = .ok (.getfield 51, 3) := by decide +kernel
theorem dX11_before_37 : decode cX11_before 37 = .ok (.iload_n 1, 1) := by decide +kernel
theorem dX11_before_38 : decode cX11_before 38 = .ok (.iaload, 1) := by decide +kernel
theorem dX11_before_39 : decode cX11_before 39 = .ok (.aload_n 0, 1) := by decide +kernel
theorem dX11_before_40 : decode cX11_before 40 = .ok (.getfield 21, 3) := by decide +kernel
theorem dX11_before_43 : decode cX11_before 43 = .ok (.getfield 51, 3) := by decide +kernel
theorem dX11_before_46 : decode cX11_before 46 = .ok (.iload_n 2, 1) := by decide +kernel
theorem dX11_before_47 : decode cX11_before 47 = .ok (.iaload, 1) := by decide +kernel
theorem dX11_before_48 : decode cX11_before 48 = .ok (.iadd, 1) := by decide +kernel
theorem dX11_before_49 : decode cX11_before 49 = .ok (.istore 4, 2) := by decide +kernel
theorem dX11_before_51 : decode cX11_before 51 = .ok (.iload 4, 2) := by decide +kernel
theorem dX11_before_53 : decode cX11_before 53 = .ok (.ifCond .ne 9, 3) := by decide +kernel
theorem dX11_before_56 : decode cX11_before 56 = .ok (.ldc2_w 156, 3) := by decide +kernel
theorem dX11_before_59 : decode cX11_before 59 = .ok (.goto 20, 3) := by decide +kernel
theorem dX11_before_62 : decode cX11_before 62 = .ok (.aload_n 0, 1) := by decide +kernel
theorem dX11_before_63 : decode cX11_before 63 = .ok (.getfield 21, 3) := by decide +kernel
theorem dX11_before_66 : decode cX11_before 66 = .ok (.getfield 51, 3) := by decide +kernel
theorem dX11_before_69 : decode cX11_before 69 = .ok (.iload_n 1, 1) := by decide +kernel
theorem dX11_before_70 : decode cX11_before 70 = .ok (.iaload, 1) := by decide +kernel
theorem dX11_before_71 : decode cX11_before 71 = .ok (.i2l, 1) := by decide +kernel
theorem dX11_before_72 : decode cX11_before 72 = .ok (.iload 4, 2) := by decide +kernel
theorem dX11_before_74 : decode cX11_before 74 = .ok (.i2l, 1) := by decide +kernel
theorem dX11_before_75 : decode cX11_before 75 = .ok (.iload_n 3, 1) := by decide +kernel
theorem dX11_before_76 : decode cX11_before 76 = .ok (.invokestatic 163, 3) := by decide +kernel
theorem dX11_before_79 : decode cX11_before 79 = .ok (.lreturn, 1) := by decide +kernel
theorem dX11_orders_0 : decode cX11_orders 0 = .ok (.aload_n 0, 1) := by decide +kernel
theorem dX11_orders_1 : decode cX11_orders 1 = .ok (.getfield 21, 3) := by decide +kernel
theorem dX11_orders_4 : decode cX11_orders 4 = .ok (.getfield 51, 3) := by decide +kernel
theorem dX11_orders_7 : decode cX11_orders 7 = .ok (.invokestatic 170, 3) := by decide +kernel
theorem dX11_orders_10 : decode cX11_orders 10 = .ok (.i2l, 1) := by decide +kernel
theorem dX11_orders_11 : decode cX11_orders 11 = .ok (.lreturn, 1) := by decide +kernel
theorem dX11_mean_0 : decode cX11_mean 0 = .ok (.aload_n 0, 1) := by decide +kernel
theorem dX11_mean_1 : decode cX11_mean 1 = .ok (.iload_n 1, 1) := by decide +kernel
theorem dX11_mean_2 : decode cX11_mean 2 = .ok (.invokevirtual 114, 3) := by decide +kernel
theorem dX11_mean_5 : decode cX11_mean 5 = .ok (.astore 4, 2) := by decide +kernel
theorem dX11_mean_7 : decode cX11_mean 7 = .ok (.aload 4, 2) := by decide +kernel
theorem dX11_mean_9 : decode cX11_mean 9 = .ok (.ifnull 19, 3) := by decide +kernel
theorem dX11_mean_12 : decode cX11_mean 12 = .ok (.iload_n 2, 1) := by decide +kernel
theorem dX11_mean_13 : decode cX11_mean 13 = .ok (.ifCond .lt 15, 3) := by decide +kernel
theorem dX11_mean_16 : decode cX11_mean 16 = .ok (.iload_n 2, 1) := by decide +kernel
theorem dX11_mean_17 : decode cX11_mean 17 = .ok (.iconst 2, 1) := by decide +kernel
theorem dX11_mean_18 : decode cX11_mean 18 = .ok (.if_icmp .gt 10, 3) := by decide +kernel
theorem dX11_mean_21 : decode cX11_mean 21 = .ok (.iload_n 3, 1) := by decide +kernel
theorem dX11_mean_22 : decode cX11_mean 22 = .ok (.invokestatic 153, 3) := by decide +kernel
theorem dX11_mean_25 : decode cX11_mean 25 = .ok (.ifCond .ne 7, 3) := by decide +kernel
theorem dX11_mean_28 : decode cX11_mean 28 = .ok (.ldc2_w 156, 3) := by decide +kernel
theorem dX11_mean_31 : decode cX11_mean 31 = .ok (.lreturn, 1) := by decide +kernel
theorem dX11_mean_32 : decode cX11_mean 32 = .ok (.aload_n 0, 1) := by decide +kernel
theorem dX11_mean_33 : decode cX11_mean 33 = .ok (.getfield 40, 3) := by decide +kernel
theorem dX11_mean_36 : decode cX11_mean 36 = .ok (.aload_n 0, 1) := by decide +kernel
theorem dX11_mean_37 : decode cX11_mean 37 = .ok (.getfield 21, 3) := by decide +kernel
theorem dX11_mean_40 : decode cX11_mean 40 = .ok (.iconst (-1), 1) := by decide +kernel
theorem dX11_mean_41 : decode cX11_mean 41 = .ok (.iconst (-1), 1) := by decide +kernel
theorem dX11_mean_42 : decode cX11_mean 42 = .ok (.invokevirtual 173, 3) := by decide +kernel
theorem dX11_mean_45 : decode cX11_mean 45 = .ok (.aload_n 0, 1) := by decide +kernel
theorem dX11_mean_46 : decode cX11_mean 46 = .ok (.getfield 40, 3) := by decide +kernel
theorem dX11_mean_49 : decode cX11_mean 49 = .ok (.invokevirtual 177, 3) := by decide +kernel
theorem dX11_mean_52 : decode cX11_mean 52 = .ok (.aload_n 0, 1) := by decide +kernel
theorem dX11_mean_53 : decode cX11_mean 53 = .ok (.getfield 40, 3) := by decide +kernel
theorem dX11_mean_56 : decode cX11_mean 56 = .ok (.aload 4, 2) := by decide +kernel
theorem dX11_mean_58 : decode cX11_mean 58 = .ok (.iload_n 2, 1) := by decide +kernel
theorem dX11_mean_59 : decode cX11_mean 59 = .ok (.iconst 1, 1) := by decide +kernel
theorem dX11_mean_60 : decode cX11_mean 60 = .ok (.if_icmp .ne 8, 3) := by decide +kernel
theorem dX11_mean_63 : decode cX11_mean 63 = .ok (.bipush 7, 2) := by decide +kernel
theorem dX11_mean_65 : decode cX11_mean 65 = .ok (.goto 4, 3) := by decide +kernel
theorem dX11_mean_68 : decode cX11_mean 68 = .ok (.iconst 0, 1) := by decide +kernel
theorem dX11_mean_69 : decode cX11_mean 69 = .ok (.aload_n 0, 1) := by decide +kernel
theorem dX11_mean_70 : decode cX11_mean 70 = .ok (.getfield 21, 3) := by decide +kernel
theorem dX11_mean_73 : decode cX11_mean 73 = .ok (.getfield 93, 3) := by decide +kernel
theorem dX11_mean_76 : decode cX11_mean 76 = .ok (.invokevirtual 180, 3) := by decide +kernel
theorem dX11_mean_79 : decode cX11_mean 79 = .ok (.i2l, 1) := by decide +kernel
theorem dX11_mean_80 : decode cX11_mean 80 = .ok (.lstore 5, 2) := by decide +kernel
theorem dX11_mean_82 : decode cX11_mean 82 = .ok (.iload_n 2, 1) := by decide +kernel
theorem dX11_mean_83 : decode cX11_mean 83 = .ok (.iconst 2, 1) := by decide +kernel
theorem dX11_mean_84 : decode cX11_mean 84 = .ok (.if_icmp .ne 23, 3) := by decide +kernel
theorem dX11_mean_87 : decode cX11_mean 87 = .ok (.aload_n 0, 1) := by decide +kernel
theorem dX11_mean_88 : decode cX11_mean 88 = .ok (.getfield 40, 3) := by decide +kernel
theorem dX11_mean_91 : decode cX11_mean 91 = .ok (.aload_n 0, 1) := by decide +kernel
theorem dX11_mean_92 : decode cX11_mean 92 = .ok (.getfield 21, 3) := by decide +kernel
theorem dX11_mean_95 : decode cX11_mean 95 = .ok (.getfield 93, 3) := by decide +kernel
theorem dX11_mean_98 : decode cX11_mean 98 = .ok (.invokevirtual 184, 3) := by decide +kernel
theorem dX11_mean_101 : decode cX11_mean 101 = .ok (.i2l, 1) := by decide +kernel
theorem dX11_mean_102 : decode cX11_mean 102 = .ok (.lload 5, 2) := by decide +kernel
theorem dX11_mean_104 : decode cX11_mean 104 = .ok (.lsub, 1) := by decide +kernel
theorem dX11_mean_105 : decode cX11_mean 105 = .ok (.lstore 5, 2) := by decide +kernel
theorem dX11_mean_107 : decode cX11_mean 107 = .ok (.lload 5, 2) := by decide +kernel
theorem dX11_mean_109 : decode cX11_mean 109 = .ok (.aload_n 0, 1) := by decide +kernel
theorem dX11_mean_110 : decode cX11_mean 110 = .ok (.getfield 21, 3) := by decide +kernel
theorem dX11_mean_113 : decode cX11_mean 113 = .ok (.getfield 51, 3) := by decide +kernel
theorem dX11_mean_116 : decode cX11_mean 116 = .ok (.invokestatic 170, 3) := by decide +kernel
theorem dX11_mean_119 : decode cX11_mean 119 = .ok (.i2l, 1) := by decide +kernel
theorem dX11_mean_120 : decode cX11_mean 120 = .ok (.iload_n 3, 1) := by decide +kernel
theorem dX11_mean_121 : decode cX11_mean 121 = .ok (.invokestatic 163, 3) := by decide +kernel
theorem dX11_mean_124 : decode cX11_mean 124 = .ok (.lreturn, 1) := by decide +kernel
theorem dX11_today_0 : decode cX11_today 0 = .ok (.iload_n 1, 1) := by decide +kernel
theorem dX11_today_1 : decode cX11_today 1 = .ok (.invokestatic 118, 3) := by decide +kernel
theorem dX11_today_4 : decode cX11_today 4 = .ok (.ifCond .ne 5, 3) := by decide +kernel
theorem dX11_today_7 : decode cX11_today 7 = .ok (.iconst (-1), 1) := by decide +kernel
theorem dX11_today_8 : decode cX11_today 8 = .ok (.ireturn, 1) := by decide +kernel
theorem dX11_today_9 : decode cX11_today 9 = .ok (.aload_n 0, 1) := by decide +kernel
theorem dX11_today_10 : decode cX11_today 10 = .ok (.getfield 21, 3) := by decide +kernel
theorem dX11_today_13 : decode cX11_today 13 = .ok (.getfield 51, 3) := by decide +kernel
theorem dX11_today_16 : decode cX11_today 16 = .ok (.iload_n 1, 1) := by decide +kernel
theorem dX11_today_17 : decode cX11_today 17 = .ok (.iaload, 1) := by decide +kernel
theorem dX11_today_18 : decode cX11_today 18 = .ok (.ifCond .ne 6, 3) := by decide +kernel
theorem dX11_today_21 : decode cX11_today 21 = .ok (.bipush (-3), 2) := by decide +kernel
theorem dX11_today_23 : decode cX11_today 23 = .ok (.ireturn, 1) := by decide +kernel
theorem dX11_today_24 : decode cX11_today 24 = .ok (.aload_n 0, 1) := by decide +kernel
theorem dX11_today_25 : decode cX11_today 25 = .ok (.getfield 40, 3) := by decide +kernel
theorem dX11_today_28 : decode cX11_today 28 = .ok (.aload_n 0, 1) := by decide +kernel
theorem dX11_today_29 : decode cX11_today 29 = .ok (.getfield 21, 3) := by decide +kernel
theorem dX11_today_32 : decode cX11_today 32 = .ok (.iconst (-1), 1) := by decide +kernel
theorem dX11_today_33 : decode cX11_today 33 = .ok (.iconst (-1), 1) := by decide +kernel
theorem dX11_today_34 : decode cX11_today 34 = .ok (.invokevirtual 173, 3) := by decide +kernel
theorem dX11_today_37 : decode cX11_today 37 = .ok (.aload_n 0, 1) := by decide +kernel
theorem dX11_today_38 : decode cX11_today 38 = .ok (.getfield 40, 3) := by decide +kernel
theorem dX11_today_41 : decode cX11_today 41 = .ok (.iload_n 1, 1) := by decide +kernel
theorem dX11_today_42 : decode cX11_today 42 = .ok (.invokevirtual 187, 3) := by decide +kernel
theorem dX11_today_45 : decode cX11_today 45 = .ok (.aload_n 0, 1) := by decide +kernel
theorem dX11_today_46 : decode cX11_today 46 = .ok (.getfield 40, 3) := by decide +kernel
theorem dX11_today_49 : decode cX11_today 49 = .ok (.iload_n 1, 1) := by decide +kernel
theorem dX11_today_50 : decode cX11_today 50 = .ok (.aload_n 0, 1) := by decide +kernel
theorem dX11_today_51 : decode cX11_today 51 = .ok (.getfield 21, 3) := by decide +kernel
theorem dX11_today_54 : decode cX11_today 54 = .ok (.getfield 93, 3) := by decide +kernel
theorem dX11_today_57 : decode cX11_today 57 = .ok (.invokevirtual 191, 3) := by decide +kernel
theorem dX11_today_60 : decode cX11_today 60 = .ok (.invokestatic 144, 3) := by decide +kernel
theorem dX11_today_63 : decode cX11_today 63 = .ok (.ireturn, 1) := by decide +kernel
theorem dX11_whatever_0 : decode cX11_whatever 0 = .ok (.aload_n 0, 1) := by decide +kernel
theorem dX11_whatever_1 : decode cX11_whatever 1 = .ok (.getfield 40, 3) := by decide +kernel
theorem dX11_whatever_4 : decode cX11_whatever 4 = .ok (.aload_n 0, 1) := by decide +kernel
theorem dX11_whatever_5 : decode cX11_whatever 5 = .ok (.getfield 21, 3) := by decide +kernel
theorem dX11_whatever_8 : decode cX11_whatever 8 = .ok (.iconst (-1), 1) := by decide +kernel
theorem dX11_whatever_9 : decode cX11_whatever 9 = .ok (.iconst (-1), 1) := by decide +kernel
theorem dX11_whatever_10 : decode cX11_whatever 10 = .ok (.invokevirtual 173, 3) := by decide +kernel
theorem dX11_whatever_13 : decode cX11_whatever 13 = .ok (.iconst 0, 1) := by decide +kernel
theorem dX11_whatever_14 : decode cX11_whatever 14 = .ok (.istore_n 1, 1) := by decide +kernel
theorem dX11_whatever_15 : decode cX11_whatever 15 = .ok (.iconst 0, 1) := by decide +kernel
theorem dX11_whatever_16 : decode cX11_whatever 16 = .ok (.istore_n 2, 1) := by decide +kernel
theorem dX11_whatever_17 : decode cX11_whatever 17 = .ok (.iload_n 2, 1) := by decide +kernel
theorem dX11_whatever_18 : decode cX11_whatever 18 = .ok (.iconst 3, 1) := by decide +kernel
theorem dX11_whatever_19 : decode cX11_whatever 19 = .ok (.if_icmp .ge 58, 3) := by decide +kernel
theorem dX11_whatever_22 : decode cX11_whatever 22 = .ok (.aload_n 0, 1) := by decide +kernel
theorem dX11_whatever_23 : decode cX11_whatever 23 = .ok (.getfield 40, 3) := by decide +kernel
theorem dX11_whatever_26 : decode cX11_whatever 26 = .ok (.invokevirtual 177, 3) := by decide +kernel
theorem dX11_whatever_29 : decode cX11_whatever 29 = .ok (.aload_n 0, 1) := by decide +kernel
theorem dX11_whatever_30 : decode cX11_whatever 30 = .ok (.getfield 40, 3) := by decide +kernel
theorem dX11_whatever_33 : decode cX11_whatever 33 = .ok (.iload_n 2, 1) := by decide +kernel
theorem dX11_whatever_34 : decode cX11_whatever 34 = .ok (.invokestatic 194, 3) := by decide +kernel
theorem dX11_whatever_37 : decode cX11_whatever 37 = .ok (.iconst 1, 1) := by decide +kernel
theorem dX11_whatever_38 : decode cX11_whatever 38 = .ok (.iload_n 2, 1) := by decide +kernel
theorem dX11_whatever_39 : decode cX11_whatever 39 = .ok (.ishl, 1) := by decide +kernel
theorem dX11_whatever_40 : decode cX11_whatever 40 = .ok (.aload_n 0, 1) := by decide +kernel
theorem dX11_whatever_41 : decode cX11_whatever 41 = .ok (.getfield 21, 3) := by decide +kernel
theorem dX11_whatever_44 : decode cX11_whatever 44 = .ok (.getfield 93, 3) := by decide +kernel
theorem dX11_whatever_47 : decode cX11_whatever 47 = .ok (.invokevirtual 180, 3) := by decide +kernel
theorem dX11_whatever_50 : decode cX11_whatever 50 = .ok (.istore_n 3, 1) := by decide +kernel
theorem dX11_whatever_51 : decode cX11_whatever 51 = .ok (.iload_n 3, 1) := by decide +kernel
theorem dX11_whatever_52 : decode cX11_whatever 52 = .ok (.aload_n 0, 1) := by decide +kernel
theorem dX11_whatever_53 : decode cX11_whatever 53 = .ok (.getfield 21, 3) := by decide +kernel
theorem dX11_whatever_56 : decode cX11_whatever 56 = .ok (.getfield 51, 3) := by decide +kernel
theorem dX11_whatever_59 : decode cX11_whatever 59 = .ok (.invokestatic 170, 3) := by decide +kernel
theorem dX11_whatever_62 : decode cX11_whatever 62 = .ok (.if_icmp .ne 9, 3) := by decide +kernel
theorem dX11_whatever_65 : decode cX11_whatever 65 = .ok (.iload_n 1, 1) := by decide +kernel
theorem dX11_whatever_66 : decode cX11_whatever 66 = .ok (.iconst 1, 1) := by decide +kernel
theorem dX11_whatever_67 : decode cX11_whatever 67 = .ok (.iload_n 2, 1) := by decide +kernel
theorem dX11_whatever_68 : decode cX11_whatever 68 = .ok (.ishl, 1) := by decide +kernel
theorem dX11_whatever_69 : decode cX11_whatever 69 = .ok (.ior, 1) := by decide +kernel
theorem dX11_whatever_70 : decode cX11_whatever 70 = .ok (.istore_n 1, 1) := by decide +kernel
theorem dX11_whatever_71 : decode cX11_whatever 71 = .ok (.iinc 2 1, 3) := by decide +kernel
theorem dX11_whatever_74 : decode cX11_whatever 74 = .ok (.goto (-57), 3) := by decide +kernel
theorem dX11_whatever_77 : decode cX11_whatever 77 = .ok (.iload_n 1, 1) := by decide +kernel
theorem dX11_whatever_78 : decode cX11_whatever 78 = .ok (.ireturn, 1) := by decide +kernel
theorem dX11_most_0 : decode cX11_most 0 = .ok (.aload_n 0, 1) := by decide +kernel
theorem dX11_most_1 : decode cX11_most 1 = .ok (.getfield 40, 3) := by decide +kernel
theorem dX11_most_4 : decode cX11_most 4 = .ok (.aload_n 0, 1) := by decide +kernel
theorem dX11_most_5 : decode cX11_most 5 = .ok (.getfield 21, 3) := by decide +kernel
theorem dX11_most_8 : decode cX11_most 8 = .ok (.iconst (-1), 1) := by decide +kernel
theorem dX11_most_9 : decode cX11_most 9 = .ok (.iconst (-1), 1) := by decide +kernel
theorem dX11_most_10 : decode cX11_most 10 = .ok (.invokevirtual 173, 3) := by decide +kernel
theorem dX11_most_13 : decode cX11_most 13 = .ok (.aload_n 0, 1) := by decide +kernel
theorem dX11_most_14 : decode cX11_most 14 = .ok (.getfield 40, 3) := by decide +kernel
theorem dX11_most_17 : decode cX11_most 17 = .ok (.invokevirtual 177, 3) := by decide +kernel
theorem dX11_most_20 : decode cX11_most 20 = .ok (.aload_n 0, 1) := by decide +kernel
theorem dX11_most_21 : decode cX11_most 21 = .ok (.getfield 40, 3) := by decide +kernel
theorem dX11_most_24 : decode cX11_most 24 = .ok (.aload_n 0, 1) := by decide +kernel
theorem dX11_most_25 : decode cX11_most 25 = .ok (.getfield 21, 3) := by decide +kernel
theorem dX11_most_28 : decode cX11_most 28 = .ok (.getfield 93, 3) := by decide +kernel
theorem dX11_most_31 : decode cX11_most 31 = .ok (.invokevirtual 197, 3) := by decide +kernel
theorem dX11_most_34 : decode cX11_most 34 = .ok (.ireturn, 1) := by decide +kernel
theorem dX11_put_0 : decode cX11_put 0 = .ok (.iload_n 1, 1) := by decide +kernel
theorem dX11_put_1 : decode cX11_put 1 = .ok (.invokestatic 118, 3) := by decide +kernel
theorem dX11_put_4 : decode cX11_put 4 = .ok (.ifCond .eq 23, 3) := by decide +kernel
theorem dX11_put_7 : decode cX11_put 7 = .ok (.iload_n 2, 1) := by decide +kernel
theorem dX11_put_8 : decode cX11_put 8 = .ok (.invokestatic 153, 3) := by decide +kernel
theorem dX11_put_11 : decode cX11_put 11 = .ok (.ifCond .eq 16, 3) := by decide +kernel
theorem dX11_put_14 : decode cX11_put 14 = .ok (.aload_n 0, 1) := by decide +kernel
theorem dX11_put_15 : decode cX11_put 15 = .ok (.getfield 21, 3) := by decide +kernel
theorem dX11_put_18 : decode cX11_put 18 = .ok (.getfield 51, 3) := by decide +kernel
theorem dX11_put_21 : decode cX11_put 21 = .ok (.iload_n 1, 1) := by decide +kernel
theorem dX11_put_22 : decode cX11_put 22 = .ok (.iaload, 1) := by decide +kernel
theorem dX11_put_23 : decode cX11_put 23 = .ok (.iconst 5, 1) := by decide +kernel
theorem dX11_put_24 : decode cX11_put 24 = .ok (.if_icmp .lt 7, 3) := by decide +kernel
theorem dX11_put_27 : decode cX11_put 27 = .ok (.ldc2_w 156, 3) := by decide +kernel
theorem dX11_put_30 : decode cX11_put 30 = .ok (.lreturn, 1) := by decide +kernel
theorem dX11_put_31 : decode cX11_put 31 = .ok (.aload_n 0, 1) := by decide +kernel
theorem dX11_put_32 : decode cX11_put 32 = .ok (.getfield 40, 3) := by decide +kernel
theorem dX11_put_35 : decode cX11_put 35 = .ok (.aload_n 0, 1) := by decide +kernel
theorem dX11_put_36 : decode cX11_put 36 = .ok (.getfield 21, 3) := by decide +kernel
theorem dX11_put_39 : decode cX11_put 39 = .ok (.iconst (-1), 1) := by decide +kernel
theorem dX11_put_40 : decode cX11_put 40 = .ok (.iconst (-1), 1) := by decide +kernel
theorem dX11_put_41 : decode cX11_put 41 = .ok (.invokevirtual 173, 3) := by decide +kernel
theorem dX11_put_44 : decode cX11_put 44 = .ok (.aload_n 0, 1) := by decide +kernel
theorem dX11_put_45 : decode cX11_put 45 = .ok (.getfield 44, 3) := by decide +kernel
theorem dX11_put_48 : decode cX11_put 48 = .ok (.aload_n 0, 1) := by decide +kernel
theorem dX11_put_49 : decode cX11_put 49 = .ok (.getfield 21, 3) := by decide +kernel
theorem dX11_put_52 : decode cX11_put 52 = .ok (.iload_n 1, 1) := by decide +kernel
theorem dX11_put_53 : decode cX11_put 53 = .ok (.iconst (-1), 1) := by decide +kernel
theorem dX11_put_54 : decode cX11_put 54 = .ok (.invokevirtual 173, 3) := by decide +kernel
theorem dX11_put_57 : decode cX11_put 57 = .ok (.aload_n 0, 1) := by decide +kernel
theorem dX11_put_58 : decode cX11_put 58 = .ok (.getfield 21, 3) := by decide +kernel
theorem dX11_put_61 : decode cX11_put 61 = .ok (.getfield 51, 3) := by decide +kernel
theorem dX11_put_64 : decode cX11_put 64 = .ok (.invokestatic 170, 3) := by decide +kernel
theorem dX11_put_67 : decode cX11_put 67 = .ok (.i2l, 1) := by decide +kernel
theorem dX11_put_68 : decode cX11_put 68 = .ok (.lstore_n 3, 1) := by decide +kernel
theorem dX11_put_69 : decode cX11_put 69 = .ok (.aload_n 0, 1) := by decide +kernel
theorem dX11_put_70 : decode cX11_put 70 = .ok (.getfield 44, 3) := by decide +kernel
theorem dX11_put_73 : decode cX11_put 73 = .ok (.invokevirtual 200, 3) := by decide +kernel
theorem dX11_put_76 : decode cX11_put 76 = .ok (.i2l, 1) := by decide +kernel
theorem dX11_put_77 : decode cX11_put 77 = .ok (.lstore 5, 2) := by decide +kernel
theorem dX11_put_79 : decode cX11_put 79 = .ok (.aload_n 0, 1) := by decide +kernel
theorem dX11_put_80 : decode cX11_put 80 = .ok (.getfield 44, 3) := by decide +kernel
theorem dX11_put_83 : decode cX11_put 83 = .ok (.aload_n 0, 1) := by decide +kernel
theorem dX11_put_84 : decode cX11_put 84 = .ok (.getfield 21, 3) := by decide +kernel
theorem dX11_put_87 : decode cX11_put 87 = .ok (.getfield 93, 3) := by decide +kernel
theorem dX11_put_90 : decode cX11_put 90 = .ok (.invokevirtual 184, 3) := by decide +kernel
theorem dX11_put_93 : decode cX11_put 93 = .ok (.i2l, 1) := by decide +kernel
theorem dX11_put_94 : decode cX11_put 94 = .ok (.lload_n 3, 1) := by decide +kernel
theorem dX11_put_95 : decode cX11_put 95 = .ok (.lmul, 1) := by decide +kernel
theorem dX11_put_96 : decode cX11_put 96 = .ok (.aload_n 0, 1) := by decide +kernel
theorem dX11_put_97 : decode cX11_put 97 = .ok (.getfield 40, 3) := by decide +kernel
theorem dX11_put_100 : decode cX11_put 100 = .ok (.aload_n 0, 1) := by decide +kernel
theorem dX11_put_101 : decode cX11_put 101 = .ok (.getfield 21, 3) := by decide +kernel
theorem dX11_put_104 : decode cX11_put 104 = .ok (.getfield 93, 3) := by decide +kernel
theorem dX11_put_107 : decode cX11_put 107 = .ok (.invokevirtual 184, 3) := by decide +kernel
theorem dX11_put_110 : decode cX11_put 110 = .ok (.i2l, 1) := by decide +kernel
theorem dX11_put_111 : decode cX11_put 111 = .ok (.lload 5, 2) := by decide +kernel
theorem dX11_put_113 : decode cX11_put 113 = .ok (.lmul, 1) := by decide +kernel
theorem dX11_put_114 : decode cX11_put 114 = .ok (.lsub, 1) := by decide +kernel
theorem dX11_put_115 : decode cX11_put 115 = .ok (.lstore 7, 2) := by decide +kernel
theorem dX11_put_117 : decode cX11_put 117 = .ok (.lload 7, 2) := by decide +kernel
theorem dX11_put_119 : decode cX11_put 119 = .ok (.lload_n 3, 1) := by decide +kernel
theorem dX11_put_120 : decode cX11_put 120 = .ok (.lload 5, 2) := by decide +kernel
theorem dX11_put_122 : decode cX11_put 122 = .ok (.lmul, 1) := by decide +kernel
theorem dX11_put_123 : decode cX11_put 123 = .ok (.iload_n 2, 1) := by decide +kernel
theorem dX11_put_124 : decode cX11_put 124 = .ok (.invokestatic 163, 3) := by decide +kernel
theorem dX11_put_127 : decode cX11_put 127 = .ok (.lreturn, 1) := by decide +kernel
theorem dX11_pass_0 : decode cX11_pass 0 = .ok (.iload_n 1, 1) := by decide +kernel
theorem dX11_pass_1 : decode cX11_pass 1 = .ok (.invokestatic 118, 3) := by decide +kernel
theorem dX11_pass_4 : decode cX11_pass 4 = .ok (.ifCond .eq 22, 3) := by decide +kernel
theorem dX11_pass_7 : decode cX11_pass 7 = .ok (.iload_n 2, 1) := by decide +kernel
theorem dX11_pass_8 : decode cX11_pass 8 = .ok (.invokestatic 153, 3) := by decide +kernel
theorem dX11_pass_11 : decode cX11_pass 11 = .ok (.ifCond .eq 15, 3) := by decide +kernel
theorem dX11_pass_14 : decode cX11_pass 14 = .ok (.aload_n 0, 1) := by decide +kernel
theorem dX11_pass_15 : decode cX11_pass 15 = .ok (.getfield 21, 3) := by decide +kernel
theorem dX11_pass_18 : decode cX11_pass 18 = .ok (.getfield 51, 3) := by decide +kernel
theorem dX11_pass_21 : decode cX11_pass 21 = .ok (.iload_n 1, 1) := by decide +kernel
theorem dX11_pass_22 : decode cX11_pass 22 = .ok (.iaload, 1) := by decide +kernel
theorem dX11_pass_23 : decode cX11_pass 23 = .ok (.ifCond .ne 7, 3) := by decide +kernel
theorem dX11_pass_26 : decode cX11_pass 26 = .ok (.ldc2_w 156, 3) := by decide +kernel
theorem dX11_pass_29 : decode cX11_pass 29 = .ok (.lreturn, 1) := by decide +kernel
theorem dX11_pass_30 : decode cX11_pass 30 = .ok (.aload_n 0, 1) := by decide +kernel
theorem dX11_pass_31 : decode cX11_pass 31 = .ok (.getfield 40, 3) := by decide +kernel
theorem dX11_pass_34 : decode cX11_pass 34 = .ok (.aload_n 0, 1) := by decide +kernel
theorem dX11_pass_35 : decode cX11_pass 35 = .ok (.getfield 21, 3) := by decide +kernel
theorem dX11_pass_38 : decode cX11_pass 38 = .ok (.iconst (-1), 1) := by decide +kernel
theorem dX11_pass_39 : decode cX11_pass 39 = .ok (.iconst (-1), 1) := by decide +kernel
theorem dX11_pass_40 : decode cX11_pass 40 = .ok (.invokevirtual 173, 3) := by decide +kernel
theorem dX11_pass_43 : decode cX11_pass 43 = .ok (.aload_n 0, 1) := by decide +kernel
theorem dX11_pass_44 : decode cX11_pass 44 = .ok (.getfield 40, 3) := by decide +kernel
theorem dX11_pass_47 : decode cX11_pass 47 = .ok (.aload_n 0, 1) := by decide +kernel
theorem dX11_pass_48 : decode cX11_pass 48 = .ok (.getfield 21, 3) := by decide +kernel
theorem dX11_pass_51 : decode cX11_pass 51 = .ok (.getfield 93, 3) := by decide +kernel
theorem dX11_pass_54 : decode cX11_pass 54 = .ok (.invokevirtual 184, 3) := by decide +kernel
theorem dX11_pass_57 : decode cX11_pass 57 = .ok (.i2l, 1) := by decide +kernel
theorem dX11_pass_58 : decode cX11_pass 58 = .ok (.lstore_n 3, 1) := by decide +kernel
theorem dX11_pass_59 : decode cX11_pass 59 = .ok (.aload_n 0, 1) := by decide +kernel
theorem dX11_pass_60 : decode cX11_pass 60 = .ok (.getfield 40, 3) := by decide +kernel
theorem dX11_pass_63 : decode cX11_pass 63 = .ok (.iload_n 1, 1) := by decide +kernel
theorem dX11_pass_64 : decode cX11_pass 64 = .ok (.invokevirtual 187, 3) := by decide +kernel
theorem dX11_pass_67 : decode cX11_pass 67 = .ok (.aload_n 0, 1) := by decide +kernel
theorem dX11_pass_68 : decode cX11_pass 68 = .ok (.getfield 40, 3) := by decide +kernel
theorem dX11_pass_71 : decode cX11_pass 71 = .ok (.iload_n 1, 1) := by decide +kernel
theorem dX11_pass_72 : decode cX11_pass 72 = .ok (.aload_n 0, 1) := by decide +kernel
theorem dX11_pass_73 : decode cX11_pass 73 = .ok (.getfield 21, 3) := by decide +kernel
theorem dX11_pass_76 : decode cX11_pass 76 = .ok (.getfield 93, 3) := by decide +kernel
theorem dX11_pass_79 : decode cX11_pass 79 = .ok (.invokevirtual 204, 3) := by decide +kernel
theorem dX11_pass_82 : decode cX11_pass 82 = .ok (.i2l, 1) := by decide +kernel
theorem dX11_pass_83 : decode cX11_pass 83 = .ok (.lstore 5, 2) := by decide +kernel
theorem dX11_pass_85 : decode cX11_pass 85 = .ok (.aload_n 0, 1) := by decide +kernel
theorem dX11_pass_86 : decode cX11_pass 86 = .ok (.getfield 21, 3) := by decide +kernel
theorem dX11_pass_89 : decode cX11_pass 89 = .ok (.getfield 51, 3) := by decide +kernel
theorem dX11_pass_92 : decode cX11_pass 92 = .ok (.invokestatic 170, 3) := by decide +kernel
theorem dX11_pass_95 : decode cX11_pass 95 = .ok (.i2l, 1) := by decide +kernel
theorem dX11_pass_96 : decode cX11_pass 96 = .ok (.lstore 7, 2) := by decide +kernel
theorem dX11_pass_98 : decode cX11_pass 98 = .ok (.aload_n 0, 1) := by decide +kernel
theorem dX11_pass_99 : decode cX11_pass 99 = .ok (.getfield 40, 3) := by decide +kernel
theorem dX11_pass_102 : decode cX11_pass 102 = .ok (.invokevirtual 200, 3) := by decide +kernel
theorem dX11_pass_105 : decode cX11_pass 105 = .ok (.i2l, 1) := by decide +kernel
theorem dX11_pass_106 : decode cX11_pass 106 = .ok (.lstore 9, 2) := by decide +kernel
theorem dX11_pass_108 : decode cX11_pass 108 = .ok (.lload_n 3, 1) := by decide +kernel
theorem dX11_pass_109 : decode cX11_pass 109 = .ok (.lload 9, 2) := by decide +kernel
theorem dX11_pass_111 : decode cX11_pass 111 = .ok (.lmul, 1) := by decide +kernel
theorem dX11_pass_112 : decode cX11_pass 112 = .ok (.lload 5, 2) := by decide +kernel
theorem dX11_pass_114 : decode cX11_pass 114 = .ok (.lload 7, 2) := by decide +kernel
theorem dX11_pass_116 : decode cX11_pass 116 = .ok (.lmul, 1) := by decide +kernel
theorem dX11_pass_117 : decode cX11_pass 117 = .ok (.lsub, 1) := by decide +kernel
theorem dX11_pass_118 : decode cX11_pass 118 = .ok (.lload 7, 2) := by decide +kernel
theorem dX11_pass_120 : decode cX11_pass 120 = .ok (.lload 9, 2) := by decide +kernel
theorem dX11_pass_122 : decode cX11_pass 122 = .ok (.lmul, 1) := by decide +kernel
theorem dX11_pass_123 : decode cX11_pass 123 = .ok (.iload_n 2, 1) := by decide +kernel
theorem dX11_pass_124 : decode cX11_pass 124 = .ok (.invokestatic 163, 3) := by decide +kernel
theorem dX11_pass_127 : decode cX11_pass 127 = .ok (.lreturn, 1) := by decide +kernel
theorem dX11_cover_0 : decode cX11_cover 0 = .ok (.iload_n 1, 1) := by decide +kernel
theorem dX11_cover_1 : decode cX11_cover 1 = .ok (.invokestatic 118, 3) := by decide +kernel
theorem dX11_cover_4 : decode cX11_cover 4 = .ok (.ifCond .eq 21, 3) := by decide +kernel
theorem dX11_cover_7 : decode cX11_cover 7 = .ok (.iload_n 3, 1) := by decide +kernel
theorem dX11_cover_8 : decode cX11_cover 8 = .ok (.invokestatic 153, 3) := by decide +kernel
theorem dX11_cover_11 : decode cX11_cover 11 = .ok (.ifCond .eq 14, 3) := by decide +kernel
theorem dX11_cover_14 : decode cX11_cover 14 = .ok (.iload_n 2, 1) := by decide +kernel
theorem dX11_cover_15 : decode cX11_cover 15 = .ok (.iconst 1, 1) := by decide +kernel
theorem dX11_cover_16 : decode cX11_cover 16 = .ok (.if_icmp .lt 9, 3) := by decide +kernel
theorem dX11_cover_19 : decode cX11_cover 19 = .ok (.iload_n 2, 1) := by decide +kernel
theorem dX11_cover_20 : decode cX11_cover 20 = .ok (.bipush 15, 2) := by decide +kernel
theorem dX11_cover_22 : decode cX11_cover 22 = .ok (.if_icmp .le 7, 3) := by decide +kernel
theorem dX11_cover_25 : decode cX11_cover 25 = .ok (.ldc2_w 156, 3) := by decide +kernel
theorem dX11_cover_28 : decode cX11_cover 28 = .ok (.lreturn, 1) := by decide +kernel
theorem dX11_cover_29 : decode cX11_cover 29 = .ok (.aload_n 0, 1) := by decide +kernel
theorem dX11_cover_30 : decode cX11_cover 30 = .ok (.getfield 21, 3) := by decide +kernel
theorem dX11_cover_33 : decode cX11_cover 33 = .ok (.getfield 51, 3) := by decide +kernel
theorem dX11_cover_36 : decode cX11_cover 36 = .ok (.invokestatic 86, 3) := by decide +kernel
theorem dX11_cover_39 : decode cX11_cover 39 = .ok (.istore 4, 2) := by decide +kernel
theorem dX11_cover_41 : decode cX11_cover 41 = .ok (.iload_n 2, 1) := by decide +kernel
theorem dX11_cover_42 : decode cX11_cover 42 = .ok (.iload 4, 2) := by decide +kernel
theorem dX11_cover_44 : decode cX11_cover 44 = .ok (.invokestatic 207, 3) := by decide +kernel
theorem dX11_cover_47 : decode cX11_cover 47 = .ok (.istore 5, 2) := by decide +kernel
theorem dX11_cover_49 : decode cX11_cover 49 = .ok (.iload 4, 2) := by decide +kernel
theorem dX11_cover_51 : decode cX11_cover 51 = .ok (.iload 5, 2) := by decide +kernel
theorem dX11_cover_53 : decode cX11_cover 53 = .ok (.invokestatic 167, 3) := by decide +kernel
theorem dX11_cover_56 : decode cX11_cover 56 = .ok (.i2l, 1) := by decide +kernel
theorem dX11_cover_57 : decode cX11_cover 57 = .ok (.lstore 6, 2) := by decide +kernel
theorem dX11_cover_59 : decode cX11_cover 59 = .ok (.iload 4, 2) := by decide +kernel
theorem dX11_cover_61 : decode cX11_cover 61 = .ok (.aload_n 0, 1) := by decide +kernel
theorem dX11_cover_62 : decode cX11_cover 62 = .ok (.getfield 21, 3) := by decide +kernel
theorem dX11_cover_65 : decode cX11_cover 65 = .ok (.getfield 51, 3) := by decide +kernel
theorem dX11_cover_68 : decode cX11_cover 68 = .ok (.iload_n 1, 1) := by decide +kernel
theorem dX11_cover_69 : decode cX11_cover 69 = .ok (.iaload, 1) := by decide +kernel
theorem dX11_cover_70 : decode cX11_cover 70 = .ok (.isub, 1) := by decide +kernel
theorem dX11_cover_71 : decode cX11_cover 71 = .ok (.iload 5, 2) := by decide +kernel
theorem dX11_cover_73 : decode cX11_cover 73 = .ok (.invokestatic 167, 3) := by decide +kernel
theorem dX11_cover_76 : decode cX11_cover 76 = .ok (.i2l, 1) := by decide +kernel
theorem dX11_cover_77 : decode cX11_cover 77 = .ok (.lstore 8, 2) := by decide +kernel
theorem dX11_cover_79 : decode cX11_cover 79 = .ok (.aload_n 0, 1) := by decide +kernel
theorem dX11_cover_80 : decode cX11_cover 80 = .ok (.getfield 21, 3) := by decide +kernel
theorem dX11_cover_83 : decode cX11_cover 83 = .ok (.getfield 76, 3) := by decide +kernel
theorem dX11_cover_86 : decode cX11_cover 86 = .ok (.getfield 80, 3) := by decide +kernel
theorem dX11_cover_89 : decode cX11_cover 89 = .ok (.i2l, 1) := by decide +kernel
theorem dX11_cover_90 : decode cX11_cover 90 = .ok (.lload 6, 2) := by decide +kernel
theorem dX11_cover_92 : decode cX11_cover 92 = .ok (.lload 8, 2) := by decide +kernel
theorem dX11_cover_94 : decode cX11_cover 94 = .ok (.lsub, 1) := by decide +kernel
theorem dX11_cover_95 : decode cX11_cover 95 = .ok (.lmul, 1) := by decide +kernel
theorem dX11_cover_96 : decode cX11_cover 96 = .ok (.lload 6, 2) := by decide +kernel
theorem dX11_cover_98 : decode cX11_cover 98 = .ok (.iload_n 3, 1) := by decide +kernel
theorem dX11_cover_99 : decode cX11_cover 99 = .ok (.invokestatic 163, 3) := by decide +kernel
theorem dX11_cover_102 : decode cX11_cover 102 = .ok (.lreturn, 1) := by decide +kernel
theorem dX11_right_0 : decode cX11_right 0 = .ok (.iload_n 1, 1) := by decide +kernel
theorem dX11_right_1 : decode cX11_right 1 = .ok (.invokestatic 118, 3) := by decide +kernel
theorem dX11_right_4 : decode cX11_right 4 = .ok (.ifCond .eq 22, 3) := by decide +kernel
theorem dX11_right_7 : decode cX11_right 7 = .ok (.iload_n 2, 1) := by decide +kernel
theorem dX11_right_8 : decode cX11_right 8 = .ok (.invokestatic 153, 3) := by decide +kernel
theorem dX11_right_11 : decode cX11_right 11 = .ok (.ifCond .eq 15, 3) := by decide +kernel
theorem dX11_right_14 : decode cX11_right 14 = .ok (.aload_n 0, 1) := by decide +kernel
theorem dX11_right_15 : decode cX11_right 15 = .ok (.getfield 21, 3) := by decide +kernel
theorem dX11_right_18 : decode cX11_right 18 = .ok (.getfield 51, 3) := by decide +kernel
theorem dX11_right_21 : decode cX11_right 21 = .ok (.iload_n 1, 1) := by decide +kernel
theorem dX11_right_22 : decode cX11_right 22 = .ok (.iaload, 1) := by decide +kernel
theorem dX11_right_23 : decode cX11_right 23 = .ok (.ifCond .ne 7, 3) := by decide +kernel
theorem dX11_right_26 : decode cX11_right 26 = .ok (.ldc2_w 156, 3) := by decide +kernel
theorem dX11_right_29 : decode cX11_right 29 = .ok (.lreturn, 1) := by decide +kernel
theorem dX11_right_30 : decode cX11_right 30 = .ok (.aload_n 0, 1) := by decide +kernel
theorem dX11_right_31 : decode cX11_right 31 = .ok (.getfield 40, 3) := by decide +kernel
theorem dX11_right_34 : decode cX11_right 34 = .ok (.aload_n 0, 1) := by decide +kernel
theorem dX11_right_35 : decode cX11_right 35 = .ok (.getfield 21, 3) := by decide +kernel
theorem dX11_right_38 : decode cX11_right 38 = .ok (.iconst (-1), 1) := by decide +kernel
theorem dX11_right_39 : decode cX11_right 39 = .ok (.iconst (-1), 1) := by decide +kernel
theorem dX11_right_40 : decode cX11_right 40 = .ok (.invokevirtual 173, 3) := by decide +kernel
theorem dX11_right_43 : decode cX11_right 43 = .ok (.aload_n 0, 1) := by decide +kernel
theorem dX11_right_44 : decode cX11_right 44 = .ok (.getfield 44, 3) := by decide +kernel
theorem dX11_right_47 : decode cX11_right 47 = .ok (.aload_n 0, 1) := by decide +kernel
theorem dX11_right_48 : decode cX11_right 48 = .ok (.getfield 21, 3) := by decide +kernel
theorem dX11_right_51 : decode cX11_right 51 = .ok (.iconst (-1), 1) := by decide +kernel
theorem dX11_right_52 : decode cX11_right 52 = .ok (.iload_n 1, 1) := by decide +kernel
theorem dX11_right_53 : decode cX11_right 53 = .ok (.invokevirtual 173, 3) := by decide +kernel
theorem dX11_right_56 : decode cX11_right 56 = .ok (.aload_n 0, 1) := by decide +kernel
theorem dX11_right_57 : decode cX11_right 57 = .ok (.getfield 40, 3) := by decide +kernel
theorem dX11_right_60 : decode cX11_right 60 = .ok (.aload_n 0, 1) := by decide +kernel
theorem dX11_right_61 : decode cX11_right 61 = .ok (.getfield 21, 3) := by decide +kernel
theorem dX11_right_64 : decode cX11_right 64 = .ok (.getfield 93, 3) := by decide +kernel
theorem dX11_right_67 : decode cX11_right 67 = .ok (.invokevirtual 184, 3) := by decide +kernel
theorem dX11_right_70 : decode cX11_right 70 = .ok (.i2l, 1) := by decide +kernel
theorem dX11_right_71 : decode cX11_right 71 = .ok (.aload_n 0, 1) := by decide +kernel
theorem dX11_right_72 : decode cX11_right 72 = .ok (.getfield 44, 3) := by decide +kernel
theorem dX11_right_75 : decode cX11_right 75 = .ok (.aload_n 0, 1) := by decide +kernel
theorem dX11_right_76 : decode cX11_right 76 = .ok (.getfield 21, 3) := by decide +kernel
theorem dX11_right_79 : decode cX11_right 79 = .ok (.getfield 93, 3) := by decide +kernel
theorem dX11_right_82 : decode cX11_right 82 = .ok (.invokevirtual 184, 3) := by decide +kernel
theorem dX11_right_85 : decode cX11_right 85 = .ok (.i2l, 1) := by decide +kernel
theorem dX11_right_86 : decode cX11_right 86 = .ok (.lsub, 1) := by decide +kernel
theorem dX11_right_87 : decode cX11_right 87 = .ok (.lstore_n 3, 1) := by decide +kernel
theorem dX11_right_88 : decode cX11_right 88 = .ok (.lload_n 3, 1) := by decide +kernel
theorem dX11_right_89 : decode cX11_right 89 = .ok (.aload_n 0, 1) := by decide +kernel
theorem dX11_right_90 : decode cX11_right 90 = .ok (.getfield 21, 3) := by decide +kernel
theorem dX11_right_93 : decode cX11_right 93 = .ok (.getfield 51, 3) := by decide +kernel
theorem dX11_right_96 : decode cX11_right 96 = .ok (.invokestatic 170, 3) := by decide +kernel
theorem dX11_right_99 : decode cX11_right 99 = .ok (.i2l, 1) := by decide +kernel
theorem dX11_right_100 : decode cX11_right 100 = .ok (.iload_n 2, 1) := by decide +kernel
theorem dX11_right_101 : decode cX11_right 101 = .ok (.invokestatic 163, 3) := by decide +kernel
theorem dX11_right_104 : decode cX11_right 104 = .ok (.lreturn, 1) := by decide +kernel
theorem dX11_book_0 : decode cX11_book 0 = .ok (.iload_n 1, 1) := by decide +kernel
theorem dX11_book_1 : decode cX11_book 1 = .ok (.iconst (-1), 1) := by decide +kernel
theorem dX11_book_2 : decode cX11_book 2 = .ok (.if_icmp .ne 13, 3) := by decide +kernel
theorem dX11_book_5 : decode cX11_book 5 = .ok (.aload_n 0, 1) := by decide +kernel
theorem dX11_book_6 : decode cX11_book 6 = .ok (.getfield 21, 3) := by decide +kernel
theorem dX11_book_9 : decode cX11_book 9 = .ok (.iconst 0, 1) := by decide +kernel
theorem dX11_book_10 : decode cX11_book 10 = .ok (.putfield 210, 3) := by decide +kernel
theorem dX11_book_13 : decode cX11_book 13 = .ok (.iconst 0, 1) := by decide +kernel
theorem dX11_book_14 : decode cX11_book 14 = .ok (.ireturn, 1) := by decide +kernel
theorem dX11_book_15 : decode cX11_book 15 = .ok (.iload_n 1, 1) := by decide +kernel
theorem dX11_book_16 : decode cX11_book 16 = .ok (.invokestatic 118, 3) := by decide +kernel
theorem dX11_book_19 : decode cX11_book 19 = .ok (.ifCond .ne 5, 3) := by decide +kernel
theorem dX11_book_22 : decode cX11_book 22 = .ok (.iconst (-1), 1) := by decide +kernel
theorem dX11_book_23 : decode cX11_book 23 = .ok (.ireturn, 1) := by decide +kernel
theorem dX11_book_24 : decode cX11_book 24 = .ok (.aload_n 0, 1) := by decide +kernel
theorem dX11_book_25 : decode cX11_book 25 = .ok (.getfield 21, 3) := by decide +kernel
theorem dX11_book_28 : decode cX11_book 28 = .ok (.getfield 210, 3) := by decide +kernel
theorem dX11_book_31 : decode cX11_book 31 = .ok (.bipush 12, 2) := by decide +kernel
theorem dX11_book_33 : decode cX11_book 33 = .ok (.if_icmp .lt 6, 3) := by decide +kernel
theorem dX11_book_36 : decode cX11_book 36 = .ok (.bipush (-4), 2) := by decide +kernel
theorem dX11_book_38 : decode cX11_book 38 = .ok (.ireturn, 1) := by decide +kernel
theorem dX11_book_39 : decode cX11_book 39 = .ok (.aload_n 0, 1) := by decide +kernel
theorem dX11_book_40 : decode cX11_book 40 = .ok (.getfield 21, 3) := by decide +kernel
theorem dX11_book_43 : decode cX11_book 43 = .ok (.getfield 213, 3) := by decide +kernel
theorem dX11_book_46 : decode cX11_book 46 = .ok (.aload_n 0, 1) := by decide +kernel
theorem dX11_book_47 : decode cX11_book 47 = .ok (.getfield 21, 3) := by decide +kernel
theorem dX11_book_50 : decode cX11_book 50 = .ok (.getfield 210, 3) := by decide +kernel
theorem dX11_book_53 : decode cX11_book 53 = .ok (.iload_n 1, 1) := by decide +kernel
theorem dX11_book_54 : decode cX11_book 54 = .ok (.iastore, 1) := by decide +kernel
theorem dX11_book_55 : decode cX11_book 55 = .ok (.aload_n 0, 1) := by decide +kernel
theorem dX11_book_56 : decode cX11_book 56 = .ok (.getfield 21, 3) := by decide +kernel
theorem dX11_book_59 : decode cX11_book 59 = .ok (.dup, 1) := by decide +kernel
theorem dX11_book_60 : decode cX11_book 60 = .ok (.getfield 210, 3) := by decide +kernel
theorem dX11_book_63 : decode cX11_book 63 = .ok (.iconst 1, 1) := by decide +kernel
theorem dX11_book_64 : decode cX11_book 64 = .ok (.iadd, 1) := by decide +kernel
theorem dX11_book_65 : decode cX11_book 65 = .ok (.putfield 210, 3) := by decide +kernel
theorem dX11_book_68 : decode cX11_book 68 = .ok (.aload_n 0, 1) := by decide +kernel
theorem dX11_book_69 : decode cX11_book 69 = .ok (.getfield 21, 3) := by decide +kernel
theorem dX11_book_72 : decode cX11_book 72 = .ok (.getfield 210, 3) := by decide +kernel
theorem dX11_book_75 : decode cX11_book 75 = .ok (.ireturn, 1) := by decide +kernel
theorem dX11_likely_0 : decode cX11_likely 0 = .ok (.iload_n 1, 1) := by decide +kernel
theorem dX11_likely_1 : decode cX11_likely 1 = .ok (.invokestatic 153, 3) := by decide +kernel
theorem dX11_likely_4 : decode cX11_likely 4 = .ok (.ifCond .ne 7, 3) := by decide +kernel
theorem dX11_likely_7 : decode cX11_likely 7 = .ok (.ldc2_w 156, 3) := by decide +kernel
theorem dX11_likely_10 : decode cX11_likely 10 = .ok (.lreturn, 1) := by decide +kernel
theorem dX11_likely_11 : decode cX11_likely 11 = .ok (.aload_n 0, 1) := by decide +kernel
theorem dX11_likely_12 : decode cX11_likely 12 = .ok (.aload_n 0, 1) := by decide +kernel
theorem dX11_likely_13 : decode cX11_likely 13 = .ok (.getfield 21, 3) := by decide +kernel
theorem dX11_likely_16 : decode cX11_likely 16 = .ok (.getfield 51, 3) := by decide +kernel
theorem dX11_likely_19 : decode cX11_likely 19 = .ok (.invokevirtual 216, 3) := by decide +kernel
theorem dX11_likely_22 : decode cX11_likely 22 = .ok (.i2l, 1) := by decide +kernel
theorem dX11_likely_23 : decode cX11_likely 23 = .ok (.aload_n 0, 1) := by decide +kernel
theorem dX11_likely_24 : decode cX11_likely 24 = .ok (.getfield 21, 3) := by decide +kernel
theorem dX11_likely_27 : decode cX11_likely 27 = .ok (.getfield 51, 3) := by decide +kernel
theorem dX11_likely_30 : decode cX11_likely 30 = .ok (.invokestatic 170, 3) := by decide +kernel
theorem dX11_likely_33 : decode cX11_likely 33 = .ok (.i2l, 1) := by decide +kernel
theorem dX11_likely_34 : decode cX11_likely 34 = .ok (.iload_n 1, 1) := by decide +kernel
theorem dX11_likely_35 : decode cX11_likely 35 = .ok (.invokestatic 163, 3) := by decide +kernel
theorem dX11_likely_38 : decode cX11_likely 38 = .ok (.lreturn, 1) := by decide +kernel
theorem dX11_judged_0 : decode cX11_judged 0 = .ok (.aload_n 0, 1) := by decide +kernel
theorem dX11_judged_1 : decode cX11_judged 1 = .ok (.iload_n 1, 1) := by decide +kernel
theorem dX11_judged_2 : decode cX11_judged 2 = .ok (.invokevirtual 114, 3) := by decide +kernel
theorem dX11_judged_5 : decode cX11_judged 5 = .ok (.astore_n 3, 1) := by decide +kernel
theorem dX11_judged_6 : decode cX11_judged 6 = .ok (.aload_n 3, 1) := by decide +kernel
theorem dX11_judged_7 : decode cX11_judged 7 = .ok (.ifnull 12, 3) := by decide +kernel
theorem dX11_judged_10 : decode cX11_judged 10 = .ok (.iload_n 2, 1) := by decide +kernel
theorem dX11_judged_11 : decode cX11_judged 11 = .ok (.ifCond .lt 8, 3) := by decide +kernel
theorem dX11_judged_14 : decode cX11_judged 14 = .ok (.iload_n 2, 1) := by decide +kernel
theorem dX11_judged_15 : decode cX11_judged 15 = .ok (.iconst 1, 1) := by decide +kernel
theorem dX11_judged_16 : decode cX11_judged 16 = .ok (.if_icmp .le 5, 3) := by decide +kernel
theorem dX11_judged_19 : decode cX11_judged 19 = .ok (.iconst (-1), 1) := by decide +kernel
theorem dX11_judged_20 : decode cX11_judged 20 = .ok (.ireturn, 1) := by decide +kernel
theorem dX11_judged_21 : decode cX11_judged 21 = .ok (.aload_n 0, 1) := by decide +kernel
theorem dX11_judged_22 : decode cX11_judged 22 = .ok (.getfield 40, 3) := by decide +kernel
theorem dX11_judged_25 : decode cX11_judged 25 = .ok (.aload_n 0, 1) := by decide +kernel
theorem dX11_judged_26 : decode cX11_judged 26 = .ok (.getfield 21, 3) := by decide +kernel
theorem dX11_judged_29 : decode cX11_judged 29 = .ok (.iconst (-1), 1) := by decide +kernel
theorem dX11_judged_30 : decode cX11_judged 30 = .ok (.iconst (-1), 1) := by decide +kernel
theorem dX11_judged_31 : decode cX11_judged 31 = .ok (.invokevirtual 173, 3) := by decide +kernel
theorem dX11_judged_34 : decode cX11_judged 34 = .ok (.iconst 0, 1) := by decide +kernel
theorem dX11_judged_35 : decode cX11_judged 35 = .ok (.istore 4, 2) := by decide +kernel
theorem dX11_judged_37 : decode cX11_judged 37 = .ok (.iconst 0, 1) := by decide +kernel
theorem dX11_judged_38 : decode cX11_judged 38 = .ok (.istore 5, 2) := by decide +kernel
theorem dX11_judged_40 : decode cX11_judged 40 = .ok (.aload_n 0, 1) := by decide +kernel
theorem dX11_judged_41 : decode cX11_judged 41 = .ok (.getfield 21, 3) := by decide +kernel
theorem dX11_judged_44 : decode cX11_judged 44 = .ok (.getfield 93, 3) := by decide +kernel
theorem dX11_judged_47 : decode cX11_judged 47 = .ok (.istore 6, 2) := by decide +kernel
theorem dX11_judged_49 : decode cX11_judged 49 = .ok (.iconst 0, 1) := by decide +kernel
theorem dX11_judged_50 : decode cX11_judged 50 = .ok (.istore 7, 2) := by decide +kernel
theorem dX11_judged_52 : decode cX11_judged 52 = .ok (.iload 7, 2) := by decide +kernel
theorem dX11_judged_54 : decode cX11_judged 54 = .ok (.aload_n 0, 1) := by decide +kernel
theorem dX11_judged_55 : decode cX11_judged 55 = .ok (.getfield 21, 3) := by decide +kernel
theorem dX11_judged_58 : decode cX11_judged 58 = .ok (.getfield 210, 3) := by decide +kernel
theorem dX11_judged_61 : decode cX11_judged 61 = .ok (.if_icmp .ge 99, 3) := by decide +kernel
theorem dX11_judged_64 : decode cX11_judged 64 = .ok (.aload_n 0, 1) := by decide +kernel
theorem dX11_judged_65 : decode cX11_judged 65 = .ok (.getfield 40, 3) := by decide +kernel
theorem dX11_judged_68 : decode cX11_judged 68 = .ok (.aload_n 0, 1) := by decide +kernel
theorem dX11_judged_69 : decode cX11_judged 69 = .ok (.getfield 21, 3) := by decide +kernel
theorem dX11_judged_72 : decode cX11_judged 72 = .ok (.getfield 213, 3) := by decide +kernel
theorem dX11_judged_75 : decode cX11_judged 75 = .ok (.iload 7, 2) := by decide +kernel
theorem dX11_judged_77 : decode cX11_judged 77 = .ok (.iaload, 1) := by decide +kernel
theorem dX11_judged_78 : decode cX11_judged 78 = .ok (.invokevirtual 219, 3) := by decide +kernel
theorem dX11_judged_81 : decode cX11_judged 81 = .ok (.ifCond .eq 79, 3) := by decide +kernel
theorem dX11_judged_84 : decode cX11_judged 84 = .ok (.aload_n 0, 1) := by decide +kernel
theorem dX11_judged_85 : decode cX11_judged 85 = .ok (.getfield 40, 3) := by decide +kernel
theorem dX11_judged_88 : decode cX11_judged 88 = .ok (.aload_n 0, 1) := by decide +kernel
theorem dX11_judged_89 : decode cX11_judged 89 = .ok (.getfield 21, 3) := by decide +kernel
theorem dX11_judged_92 : decode cX11_judged 92 = .ok (.getfield 213, 3) := by decide +kernel
theorem dX11_judged_95 : decode cX11_judged 95 = .ok (.iload 7, 2) := by decide +kernel
theorem dX11_judged_97 : decode cX11_judged 97 = .ok (.iaload, 1) := by decide +kernel
theorem dX11_judged_98 : decode cX11_judged 98 = .ok (.invokevirtual 187, 3) := by decide +kernel
theorem dX11_judged_101 : decode cX11_judged 101 = .ok (.aload_n 3, 1) := by decide +kernel
theorem dX11_judged_102 : decode cX11_judged 102 = .ok (.aload_n 0, 1) := by decide +kernel
theorem dX11_judged_103 : decode cX11_judged 103 = .ok (.getfield 40, 3) := by decide +kernel
theorem dX11_judged_106 : decode cX11_judged 106 = .ok (.aload_n 0, 1) := by decide +kernel
theorem dX11_judged_107 : decode cX11_judged 107 = .ok (.getfield 21, 3) := by decide +kernel
theorem dX11_judged_110 : decode cX11_judged 110 = .ok (.getfield 213, 3) := by decide +kernel
theorem dX11_judged_113 : decode cX11_judged 113 = .ok (.iload 7, 2) := by decide +kernel
theorem dX11_judged_115 : decode cX11_judged 115 = .ok (.iaload, 1) := by decide +kernel
theorem dX11_judged_116 : decode cX11_judged 116 = .ok (.iload 6, 2) := by decide +kernel
theorem dX11_judged_118 : decode cX11_judged 118 = .ok (.invokevirtual 222, 3) := by decide +kernel
theorem dX11_judged_121 : decode cX11_judged 121 = .ok (.istore 8, 2) := by decide +kernel
theorem dX11_judged_123 : decode cX11_judged 123 = .ok (.iload 5, 2) := by decide +kernel
theorem dX11_judged_125 : decode cX11_judged 125 = .ok (.aload_n 0, 1) := by decide +kernel
theorem dX11_judged_126 : decode cX11_judged 126 = .ok (.getfield 21, 3) := by decide +kernel
theorem dX11_judged_129 : decode cX11_judged 129 = .ok (.getfield 76, 3) := by decide +kernel
theorem dX11_judged_132 : decode cX11_judged 132 = .ok (.iload 8, 2) := by decide +kernel
theorem dX11_judged_134 : decode cX11_judged 134 = .ok (.iload 6, 2) := by decide +kernel
theorem dX11_judged_136 : decode cX11_judged 136 = .ok (.invokevirtual 147, 3) := by decide +kernel
theorem dX11_judged_139 : decode cX11_judged 139 = .ok (.iadd, 1) := by decide +kernel
theorem dX11_judged_140 : decode cX11_judged 140 = .ok (.istore 5, 2) := by decide +kernel
theorem dX11_judged_142 : decode cX11_judged 142 = .ok (.iload 8, 2) := by decide +kernel
theorem dX11_judged_144 : decode cX11_judged 144 = .ok (.iload 6, 2) := by decide +kernel
theorem dX11_judged_146 : decode cX11_judged 146 = .ok (.invokestatic 150, 3) := by decide +kernel
theorem dX11_judged_149 : decode cX11_judged 149 = .ok (.istore 6, 2) := by decide +kernel
theorem dX11_judged_151 : decode cX11_judged 151 = .ok (.iinc 4 1, 3) := by decide +kernel
theorem dX11_judged_154 : decode cX11_judged 154 = .ok (.iinc 7 1, 3) := by decide +kernel
theorem dX11_judged_157 : decode cX11_judged 157 = .ok (.goto (-105), 3) := by decide +kernel
theorem dX11_judged_160 : decode cX11_judged 160 = .ok (.iload_n 2, 1) := by decide +kernel
theorem dX11_judged_161 : decode cX11_judged 161 = .ok (.ifCond .ne 8, 3) := by decide +kernel
theorem dX11_judged_164 : decode cX11_judged 164 = .ok (.iload 4, 2) := by decide +kernel
theorem dX11_judged_166 : decode cX11_judged 166 = .ok (.goto 5, 3) := by decide +kernel
theorem dX11_judged_169 : decode cX11_judged 169 = .ok (.iload 5, 2) := by decide +kernel
theorem dX11_judged_171 : decode cX11_judged 171 = .ok (.ireturn, 1) := by decide +kernel
theorem dX11_other_0 : decode cX11_other 0 = .ok (.aload_n 0, 1) := by decide +kernel
theorem dX11_other_1 : decode cX11_other 1 = .ok (.getfield 21, 3) := by decide +kernel
theorem dX11_other_4 : decode cX11_other 4 = .ok (.getfield 226, 3) := by decide +kernel
theorem dX11_other_7 : decode cX11_other 7 = .ok (.iload_n 1, 1) := by decide +kernel
theorem dX11_other_8 : decode cX11_other 8 = .ok (.iload_n 2, 1) := by decide +kernel
theorem dX11_other_9 : decode cX11_other 9 = .ok (.invokestatic 54, 3) := by decide +kernel
theorem dX11_other_12 : decode cX11_other 12 = .ok (.ireturn, 1) := by decide +kernel
theorem dX11_same_0 : decode cX11_same 0 = .ok (.aload_n 0, 1) := by decide +kernel
theorem dX11_same_1 : decode cX11_same 1 = .ok (.aload_n 0, 1) := by decide +kernel
theorem dX11_same_2 : decode cX11_same 2 = .ok (.getfield 21, 3) := by decide +kernel
theorem dX11_same_5 : decode cX11_same 5 = .ok (.getfield 51, 3) := by decide +kernel
theorem dX11_same_8 : decode cX11_same 8 = .ok (.invokevirtual 216, 3) := by decide +kernel
theorem dX11_same_11 : decode cX11_same 11 = .ok (.i2l, 1) := by decide +kernel
theorem dX11_same_12 : decode cX11_same 12 = .ok (.aload_n 0, 1) := by decide +kernel
theorem dX11_same_13 : decode cX11_same 13 = .ok (.getfield 21, 3) := by decide +kernel
theorem dX11_same_16 : decode cX11_same 16 = .ok (.getfield 226, 3) := by decide +kernel
theorem dX11_same_19 : decode cX11_same 19 = .ok (.invokestatic 170, 3) := by decide +kernel
theorem dX11_same_22 : decode cX11_same 22 = .ok (.i2l, 1) := by decide +kernel
theorem dX11_same_23 : decode cX11_same 23 = .ok (.lmul, 1) := by decide +kernel
theorem dX11_same_24 : decode cX11_same 24 = .ok (.lstore_n 1, 1) := by decide +kernel
theorem dX11_same_25 : decode cX11_same 25 = .ok (.aload_n 0, 1) := by decide +kernel
theorem dX11_same_26 : decode cX11_same 26 = .ok (.aload_n 0, 1) := by decide +kernel
theorem dX11_same_27 : decode cX11_same 27 = .ok (.getfield 21, 3) := by decide +kernel
theorem dX11_same_30 : decode cX11_same 30 = .ok (.getfield 226, 3) := by decide +kernel
theorem dX11_same_33 : decode cX11_same 33 = .ok (.invokevirtual 216, 3) := by decide +kernel
theorem dX11_same_36 : decode cX11_same 36 = .ok (.i2l, 1) := by decide +kernel
theorem dX11_same_37 : decode cX11_same 37 = .ok (.aload_n 0, 1) := by decide +kernel
theorem dX11_same_38 : decode cX11_same 38 = .ok (.getfield 21, 3) := by decide +kernel
theorem dX11_same_41 : decode cX11_same 41 = .ok (.getfield 51, 3) := by decide +kernel
theorem dX11_same_44 : decode cX11_same 44 = .ok (.invokestatic 170, 3) := by decide +kernel
theorem dX11_same_47 : decode cX11_same 47 = .ok (.i2l, 1) := by decide +kernel
theorem dX11_same_48 : decode cX11_same 48 = .ok (.lmul, 1) := by decide +kernel
theorem dX11_same_49 : decode cX11_same 49 = .ok (.lstore_n 3, 1) := by decide +kernel
theorem dX11_same_50 : decode cX11_same 50 = .ok (.lload_n 1, 1) := by decide +kernel
theorem dX11_same_51 : decode cX11_same 51 = .ok (.lload_n 3, 1) := by decide +kernel
theorem dX11_same_52 : decode cX11_same 52 = .ok (.lcmp, 1) := by decide +kernel
theorem dX11_same_53 : decode cX11_same 53 = .ok (.ifCond .ne 5, 3) := by decide +kernel
theorem dX11_same_56 : decode cX11_same 56 = .ok (.iconst 0, 1) := by decide +kernel
theorem dX11_same_57 : decode cX11_same 57 = .ok (.ireturn, 1) := by decide +kernel
theorem dX11_same_58 : decode cX11_same 58 = .ok (.lload_n 1, 1) := by decide +kernel
theorem dX11_same_59 : decode cX11_same 59 = .ok (.lload_n 3, 1) := by decide +kernel
theorem dX11_same_60 : decode cX11_same 60 = .ok (.lcmp, 1) := by decide +kernel
theorem dX11_same_61 : decode cX11_same 61 = .ok (.ifCond .le 7, 3) := by decide +kernel
theorem dX11_same_64 : decode cX11_same 64 = .ok (.iconst 1, 1) := by decide +kernel
theorem dX11_same_65 : decode cX11_same 65 = .ok (.goto 4, 3) := by decide +kernel
theorem dX11_same_68 : decode cX11_same 68 = .ok (.iconst 2, 1) := by decide +kernel
theorem dX11_same_69 : decode cX11_same 69 = .ok (.ireturn, 1) := by decide +kernel
theorem dX11_act_0 : decode cX11_act 0 = .ok (.aload_n 0, 1) := by decide +kernel
theorem dX11_act_1 : decode cX11_act 1 = .ok (.getfield 47, 3) := by decide +kernel
theorem dX11_act_4 : decode cX11_act 4 = .ok (.iconst 0, 1) := by decide +kernel
theorem dX11_act_5 : decode cX11_act 5 = .ok (.iconst 0, 1) := by decide +kernel
theorem dX11_act_6 : decode cX11_act 6 = .ok (.iastore, 1) := by decide +kernel
theorem dX11_act_7 : decode cX11_act 7 = .ok (.aload_n 0, 1) := by decide +kernel
theorem dX11_act_8 : decode cX11_act 8 = .ok (.iload_n 1, 1) := by decide +kernel
theorem dX11_act_9 : decode cX11_act 9 = .ok (.invokevirtual 114, 3) := by decide +kernel
theorem dX11_act_12 : decode cX11_act 12 = .ok (.astore 4, 2) := by decide +kernel
theorem dX11_act_14 : decode cX11_act 14 = .ok (.aload 4, 2) := by decide +kernel
theorem dX11_act_16 : decode cX11_act 16 = .ok (.ifnull 12, 3) := by decide +kernel
theorem dX11_act_19 : decode cX11_act 19 = .ok (.iload_n 2, 1) := by decide +kernel
theorem dX11_act_20 : decode cX11_act 20 = .ok (.ifCond .lt 8, 3) := by decide +kernel
theorem dX11_act_23 : decode cX11_act 23 = .ok (.iload_n 2, 1) := by decide +kernel
theorem dX11_act_24 : decode cX11_act 24 = .ok (.iconst 3, 1) := by decide +kernel
theorem dX11_act_25 : decode cX11_act 25 = .ok (.if_icmp .lt 5, 3) := by decide +kernel
theorem dX11_act_28 : decode cX11_act 28 = .ok (.iconst 0, 1) := by decide +kernel
theorem dX11_act_29 : decode cX11_act 29 = .ok (.ireturn, 1) := by decide +kernel
theorem dX11_act_30 : decode cX11_act 30 = .ok (.iload_n 2, 1) := by decide +kernel
theorem dX11_act_31 : decode cX11_act 31 = .ok (.ifCond .ne 14, 3) := by decide +kernel
theorem dX11_act_34 : decode cX11_act 34 = .ok (.aload 4, 2) := by decide +kernel
theorem dX11_act_36 : decode cX11_act 36 = .ok (.iload_n 3, 1) := by decide +kernel
theorem dX11_act_37 : decode cX11_act 37 = .ok (.aload_n 0, 1) := by decide +kernel
theorem dX11_act_38 : decode cX11_act 38 = .ok (.getfield 47, 3) := by decide +kernel
theorem dX11_act_41 : decode cX11_act 41 = .ok (.invokevirtual 229, 3) := by decide +kernel
theorem dX11_act_44 : decode cX11_act 44 = .ok (.ireturn, 1) := by decide +kernel
theorem dX11_act_45 : decode cX11_act 45 = .ok (.iload_n 2, 1) := by decide +kernel
theorem dX11_act_46 : decode cX11_act 46 = .ok (.iconst 1, 1) := by decide +kernel
theorem dX11_act_47 : decode cX11_act 47 = .ok (.if_icmp .ne 16, 3) := by decide +kernel
theorem dX11_act_50 : decode cX11_act 50 = .ok (.aload 4, 2) := by decide +kernel
theorem dX11_act_52 : decode cX11_act 52 = .ok (.iload_n 3, 1) := by decide +kernel
theorem dX11_act_53 : decode cX11_act 53 = .ok (.aload_n 0, 1) := by decide +kernel
theorem dX11_act_54 : decode cX11_act 54 = .ok (.getfield 47, 3) := by decide +kernel
theorem dX11_act_57 : decode cX11_act 57 = .ok (.invokevirtual 233, 3) := by decide +kernel
theorem dX11_act_60 : decode cX11_act 60 = .ok (.goto 13, 3) := by decide +kernel
theorem dX11_act_63 : decode cX11_act 63 = .ok (.aload 4, 2) := by decide +kernel
theorem dX11_act_65 : decode cX11_act 65 = .ok (.iload_n 3, 1) := by decide +kernel
theorem dX11_act_66 : decode cX11_act 66 = .ok (.aload_n 0, 1) := by decide +kernel
theorem dX11_act_67 : decode cX11_act 67 = .ok (.getfield 47, 3) := by decide +kernel
theorem dX11_act_70 : decode cX11_act 70 = .ok (.invokevirtual 236, 3) := by decide +kernel
theorem dX11_act_73 : decode cX11_act 73 = .ok (.ireturn, 1) := by decide +kernel
theorem dX11_trace_0 : decode cX11_trace 0 = .ok (.iload_n 1, 1) := by decide +kernel
theorem dX11_trace_1 : decode cX11_trace 1 = .ok (.ifCond .lt 19, 3) := by decide +kernel
theorem dX11_trace_4 : decode cX11_trace 4 = .ok (.iload_n 1, 1) := by decide +kernel
theorem dX11_trace_5 : decode cX11_trace 5 = .ok (.bipush 20, 2) := by decide +kernel
theorem dX11_trace_7 : decode cX11_trace 7 = .ok (.if_icmp .ge 13, 3) := by decide +kernel
theorem dX11_trace_10 : decode cX11_trace 10 = .ok (.iload_n 1, 1) := by decide +kernel
theorem dX11_trace_11 : decode cX11_trace 11 = .ok (.aload_n 0, 1) := by decide +kernel
theorem dX11_trace_12 : decode cX11_trace 12 = .ok (.getfield 47, 3) := by decide +kernel
theorem dX11_trace_15 : decode cX11_trace 15 = .ok (.iconst 0, 1) := by decide +kernel
theorem dX11_trace_16 : decode cX11_trace 16 = .ok (.iaload, 1) := by decide +kernel
theorem dX11_trace_17 : decode cX11_trace 17 = .ok (.if_icmp .lt 5, 3) := by decide +kernel
theorem dX11_trace_20 : decode cX11_trace 20 = .ok (.iconst (-1), 1) := by decide +kernel
theorem dX11_trace_21 : decode cX11_trace 21 = .ok (.ireturn, 1) := by decide +kernel
theorem dX11_trace_22 : decode cX11_trace 22 = .ok (.aload_n 0, 1) := by decide +kernel
theorem dX11_trace_23 : decode cX11_trace 23 = .ok (.getfield 47, 3) := by decide +kernel
theorem dX11_trace_26 : decode cX11_trace 26 = .ok (.iload_n 1, 1) := by decide +kernel
theorem dX11_trace_27 : decode cX11_trace 27 = .ok (.iconst 1, 1) := by decide +kernel
theorem dX11_trace_28 : decode cX11_trace 28 = .ok (.iadd, 1) := by decide +kernel
theorem dX11_trace_29 : decode cX11_trace 29 = .ok (.iaload, 1) := by decide +kernel
theorem dX11_trace_30 : decode cX11_trace 30 = .ok (.ireturn, 1) := by decide +kernel
theorem dX11_as_0 : decode cX11_as 0 = .ok (.aload_n 0, 1) := by decide +kernel
theorem dX11_as_1 : decode cX11_as 1 = .ok (.iload_n 1, 1) := by decide +kernel
theorem dX11_as_2 : decode cX11_as 2 = .ok (.invokevirtual 114, 3) := by decide +kernel
theorem dX11_as_5 : decode cX11_as 5 = .ok (.astore_n 3, 1) := by decide +kernel
theorem dX11_as_6 : decode cX11_as 6 = .ok (.aload_n 3, 1) := by decide +kernel
theorem dX11_as_7 : decode cX11_as 7 = .ok (.ifnull 13, 3) := by decide +kernel
theorem dX11_as_10 : decode cX11_as 10 = .ok (.iload_n 2, 1) := by decide +kernel
theorem dX11_as_11 : decode cX11_as 11 = .ok (.ifCond .lt 9, 3) := by decide +kernel
theorem dX11_as_14 : decode cX11_as 14 = .ok (.iload_n 2, 1) := by decide +kernel
theorem dX11_as_15 : decode cX11_as 15 = .ok (.bipush 7, 2) := by decide +kernel
theorem dX11_as_17 : decode cX11_as 17 = .ok (.if_icmp .lt 5, 3) := by decide +kernel
theorem dX11_as_20 : decode cX11_as 20 = .ok (.iconst (-1), 1) := by decide +kernel
theorem dX11_as_21 : decode cX11_as 21 = .ok (.ireturn, 1) := by decide +kernel
theorem dX11_as_22 : decode cX11_as 22 = .ok (.aload_n 3, 1) := by decide +kernel
theorem dX11_as_23 : decode cX11_as 23 = .ok (.iload_n 2, 1) := by decide +kernel
theorem dX11_as_24 : decode cX11_as 24 = .ok (.invokestatic 239, 3) := by decide +kernel
theorem dX11_as_27 : decode cX11_as 27 = .ok (.ifCond .eq 10, 3) := by decide +kernel
theorem dX11_as_30 : decode cX11_as 30 = .ok (.aload_n 3, 1) := by decide +kernel
theorem dX11_as_31 : decode cX11_as 31 = .ok (.getfield 137, 3) := by decide +kernel
theorem dX11_as_34 : decode cX11_as 34 = .ok (.goto 5, 3) := by decide +kernel
theorem dX11_as_37 : decode cX11_as 37 = .ok (.bipush (-6), 2) := by decide +kernel
theorem dX11_as_39 : decode cX11_as 39 = .ok (.ireturn, 1) := by decide +kernel
theorem dX11_image_0 : decode cX11_image 0 = .ok (.aload_n 0, 1) := by decide +kernel
theorem dX11_image_1 : decode cX11_image 1 = .ok (.getfield 25, 3) := by decide +kernel
theorem dX11_image_4 : decode cX11_image 4 = .ok (.aload_n 0, 1) := by decide +kernel
theorem dX11_image_5 : decode cX11_image 5 = .ok (.getfield 21, 3) := by decide +kernel
theorem dX11_image_8 : decode cX11_image 8 = .ok (.invokevirtual 243, 3) := by decide +kernel
theorem dX11_image_11 : decode cX11_image 11 = .ok (.aload_n 0, 1) := by decide +kernel
theorem dX11_image_12 : decode cX11_image 12 = .ok (.iconst 1, 1) := by decide +kernel
theorem dX11_image_13 : decode cX11_image 13 = .ok (.putfield 247, 3) := by decide +kernel
theorem dX11_image_16 : decode cX11_image 16 = .ok (.aload_n 0, 1) := by decide +kernel
theorem dX11_image_17 : decode cX11_image 17 = .ok (.getfield 21, 3) := by decide +kernel
theorem dX11_image_20 : decode cX11_image 20 = .ok (.getfield 103, 3) := by decide +kernel
theorem dX11_image_23 : decode cX11_image 23 = .ok (.ireturn, 1) := by decide +kernel
theorem dX11_undo_0 : decode cX11_undo 0 = .ok (.aload_n 0, 1) := by decide +kernel
theorem dX11_undo_1 : decode cX11_undo 1 = .ok (.getfield 247, 3) := by decide +kernel
theorem dX11_undo_4 : decode cX11_undo 4 = .ok (.ifCond .ne 6, 3) := by decide +kernel
theorem dX11_undo_7 : decode cX11_undo 7 = .ok (.bipush (-3), 2) := by decide +kernel
theorem dX11_undo_9 : decode cX11_undo 9 = .ok (.ireturn, 1) := by decide +kernel
theorem dX11_undo_10 : decode cX11_undo 10 = .ok (.aload_n 0, 1) := by decide +kernel
theorem dX11_undo_11 : decode cX11_undo 11 = .ok (.getfield 21, 3) := by decide +kernel
theorem dX11_undo_14 : decode cX11_undo 14 = .ok (.aload_n 0, 1) := by decide +kernel
theorem dX11_undo_15 : decode cX11_undo 15 = .ok (.getfield 25, 3) := by decide +kernel
theorem dX11_undo_18 : decode cX11_undo 18 = .ok (.invokevirtual 243, 3) := by decide +kernel
theorem dX11_undo_21 : decode cX11_undo 21 = .ok (.aload_n 0, 1) := by decide +kernel
theorem dX11_undo_22 : decode cX11_undo 22 = .ok (.getfield 21, 3) := by decide +kernel
theorem dX11_undo_25 : decode cX11_undo 25 = .ok (.getfield 103, 3) := by decide +kernel
theorem dX11_undo_28 : decode cX11_undo 28 = .ok (.ireturn, 1) := by decide +kernel
theorem dX11_count_0 : decode cX11_count 0 = .ok (.iload_n 1, 1) := by decide +kernel
theorem dX11_count_1 : decode cX11_count 1 = .ok (.tableswitch 74 0 4 #[35, 43, 51, 59, 67], 35) := by decide +kernel
theorem dX11_count_36 : decode cX11_count 36 = .ok (.aload_n 0, 1) := by decide +kernel
theorem dX11_count_37 : decode cX11_count 37 = .ok (.getfield 21, 3) := by decide +kernel
theorem dX11_count_40 : decode cX11_count 40 = .ok (.getfield 103, 3) := by decide +kernel
theorem dX11_count_43 : decode cX11_count 43 = .ok (.ireturn, 1) := by decide +kernel
theorem dX11_count_44 : decode cX11_count 44 = .ok (.aload_n 0, 1) := by decide +kernel
theorem dX11_count_45 : decode cX11_count 45 = .ok (.getfield 21, 3) := by decide +kernel
theorem dX11_count_48 : decode cX11_count 48 = .ok (.getfield 65, 3) := by decide +kernel
theorem dX11_count_51 : decode cX11_count 51 = .ok (.ireturn, 1) := by decide +kernel
theorem dX11_count_52 : decode cX11_count 52 = .ok (.aload_n 0, 1) := by decide +kernel
theorem dX11_count_53 : decode cX11_count 53 = .ok (.getfield 21, 3) := by decide +kernel
theorem dX11_count_56 : decode cX11_count 56 = .ok (.getfield 210, 3) := by decide +kernel
theorem dX11_count_59 : decode cX11_count 59 = .ok (.ireturn, 1) := by decide +kernel
theorem dX11_count_60 : decode cX11_count 60 = .ok (.aload_n 0, 1) := by decide +kernel
theorem dX11_count_61 : decode cX11_count 61 = .ok (.getfield 21, 3) := by decide +kernel
theorem dX11_count_64 : decode cX11_count 64 = .ok (.getfield 58, 3) := by decide +kernel
theorem dX11_count_67 : decode cX11_count 67 = .ok (.ireturn, 1) := by decide +kernel
theorem dX11_count_68 : decode cX11_count 68 = .ok (.aload_n 0, 1) := by decide +kernel
theorem dX11_count_69 : decode cX11_count 69 = .ok (.getfield 47, 3) := by decide +kernel
theorem dX11_count_72 : decode cX11_count 72 = .ok (.iconst 0, 1) := by decide +kernel
theorem dX11_count_73 : decode cX11_count 73 = .ok (.iaload, 1) := by decide +kernel
theorem dX11_count_74 : decode cX11_count 74 = .ok (.ireturn, 1) := by decide +kernel
theorem dX11_count_75 : decode cX11_count 75 = .ok (.iconst (-1), 1) := by decide +kernel
theorem dX11_count_76 : decode cX11_count 76 = .ok (.ireturn, 1) := by decide +kernel
theorem dX11_isSort_0 : decode cX11_isSort 0 = .ok (.iload_n 0, 1) := by decide +kernel
theorem dX11_isSort_1 : decode cX11_isSort 1 = .ok (.ifCond .lt 12, 3) := by decide +kernel
theorem dX11_isSort_4 : decode cX11_isSort 4 = .ok (.iload_n 0, 1) := by decide +kernel
theorem dX11_isSort_5 : decode cX11_isSort 5 = .ok (.iconst 3, 1) := by decide +kernel
theorem dX11_isSort_6 : decode cX11_isSort 6 = .ok (.if_icmp .ge 7, 3) := by decide +kernel
theorem dX11_isSort_9 : decode cX11_isSort 9 = .ok (.iconst 1, 1) := by decide +kernel
theorem dX11_isSort_10 : decode cX11_isSort 10 = .ok (.goto 4, 3) := by decide +kernel
theorem dX11_isSort_13 : decode cX11_isSort 13 = .ok (.iconst 0, 1) := by decide +kernel
theorem dX11_isSort_14 : decode cX11_isSort 14 = .ok (.ireturn, 1) := by decide +kernel
theorem dX11_isPart_0 : decode cX11_isPart 0 = .ok (.iload_n 0, 1) := by decide +kernel
theorem dX11_isPart_1 : decode cX11_isPart 1 = .ok (.ifCond .eq 8, 3) := by decide +kernel
theorem dX11_isPart_4 : decode cX11_isPart 4 = .ok (.iload_n 0, 1) := by decide +kernel
theorem dX11_isPart_5 : decode cX11_isPart 5 = .ok (.iconst 1, 1) := by decide +kernel
theorem dX11_isPart_6 : decode cX11_isPart 6 = .ok (.if_icmp .ne 7, 3) := by decide +kernel
theorem dX11_isPart_9 : decode cX11_isPart 9 = .ok (.iconst 1, 1) := by decide +kernel
theorem dX11_isPart_10 : decode cX11_isPart 10 = .ok (.goto 4, 3) := by decide +kernel
theorem dX11_isPart_13 : decode cX11_isPart 13 = .ok (.iconst 0, 1) := by decide +kernel
theorem dX11_isPart_14 : decode cX11_isPart 14 = .ok (.ireturn, 1) := by decide +kernel
theorem dX11_workName_0 : decode cX11_workName 0 = .ok (.iload_n 0, 1) := by decide +kernel
theorem dX11_workName_1 : decode cX11_workName 1 = .ok (.iconst 3, 1) := by decide +kernel
theorem dX11_workName_2 : decode cX11_workName 2 = .ok (.if_icmp .ne 8, 3) := by decide +kernel
theorem dX11_workName_5 : decode cX11_workName 5 = .ok (.bipush (-5), 2) := by decide +kernel
theorem dX11_workName_7 : decode cX11_workName 7 = .ok (.goto 4, 3) := by decide +kernel
theorem dX11_workName_10 : decode cX11_workName 10 = .ok (.iload_n 0, 1) := by decide +kernel
theorem dX11_workName_11 : decode cX11_workName 11 = .ok (.ireturn, 1) := by decide +kernel
theorem dX11_changed_0 : decode cX11_changed 0 = .ok (.iload_n 1, 1) := by decide +kernel
theorem dX11_changed_1 : decode cX11_changed 1 = .ok (.invokestatic 118, 3) := by decide +kernel
theorem dX11_changed_4 : decode cX11_changed 4 = .ok (.ifCond .ne 5, 3) := by decide +kernel
theorem dX11_changed_7 : decode cX11_changed 7 = .ok (.iconst (-1), 1) := by decide +kernel
theorem dX11_changed_8 : decode cX11_changed 8 = .ok (.ireturn, 1) := by decide +kernel
theorem dX11_changed_9 : decode cX11_changed 9 = .ok (.iload_n 2, 1) := by decide +kernel
theorem dX11_changed_10 : decode cX11_changed 10 = .ok (.ifCond .lt 8, 3) := by decide +kernel
theorem dX11_changed_13 : decode cX11_changed 13 = .ok (.iload_n 2, 1) := by decide +kernel
theorem dX11_changed_14 : decode cX11_changed 14 = .ok (.iconst 5, 1) := by decide +kernel
theorem dX11_changed_15 : decode cX11_changed 15 = .ok (.if_icmp .le 6, 3) := by decide +kernel
theorem dX11_changed_18 : decode cX11_changed 18 = .ok (.bipush (-2), 2) := by decide +kernel
theorem dX11_changed_20 : decode cX11_changed 20 = .ok (.ireturn, 1) := by decide +kernel
theorem dX11_changed_21 : decode cX11_changed 21 = .ok (.aload_n 0, 1) := by decide +kernel
theorem dX11_changed_22 : decode cX11_changed 22 = .ok (.iload_n 1, 1) := by decide +kernel
theorem dX11_changed_23 : decode cX11_changed 23 = .ok (.iaload, 1) := by decide +kernel
theorem dX11_changed_24 : decode cX11_changed 24 = .ok (.istore_n 3, 1) := by decide +kernel
theorem dX11_changed_25 : decode cX11_changed 25 = .ok (.aload_n 0, 1) := by decide +kernel
theorem dX11_changed_26 : decode cX11_changed 26 = .ok (.iload_n 1, 1) := by decide +kernel
theorem dX11_changed_27 : decode cX11_changed 27 = .ok (.iload_n 2, 1) := by decide +kernel
theorem dX11_changed_28 : decode cX11_changed 28 = .ok (.iastore, 1) := by decide +kernel
theorem dX11_changed_29 : decode cX11_changed 29 = .ok (.iload_n 3, 1) := by decide +kernel
theorem dX11_changed_30 : decode cX11_changed 30 = .ok (.ireturn, 1) := by decide +kernel
theorem dX11_restOf_0 : decode cX11_restOf 0 = .ok (.iconst 0, 1) := by decide +kernel
theorem dX11_restOf_1 : decode cX11_restOf 1 = .ok (.istore_n 1, 1) := by decide +kernel
theorem dX11_restOf_2 : decode cX11_restOf 2 = .ok (.iconst 0, 1) := by decide +kernel
theorem dX11_restOf_3 : decode cX11_restOf 3 = .ok (.istore_n 2, 1) := by decide +kernel
theorem dX11_restOf_4 : decode cX11_restOf 4 = .ok (.iload_n 2, 1) := by decide +kernel
theorem dX11_restOf_5 : decode cX11_restOf 5 = .ok (.iconst 3, 1) := by decide +kernel
theorem dX11_restOf_6 : decode cX11_restOf 6 = .ok (.if_icmp .ge 15, 3) := by decide +kernel
theorem dX11_restOf_9 : decode cX11_restOf 9 = .ok (.iload_n 1, 1) := by decide +kernel
theorem dX11_restOf_10 : decode cX11_restOf 10 = .ok (.aload_n 0, 1) := by decide +kernel
theorem dX11_restOf_11 : decode cX11_restOf 11 = .ok (.iload_n 2, 1) := by decide +kernel
theorem dX11_restOf_12 : decode cX11_restOf 12 = .ok (.iaload, 1) := by decide +kernel
theorem dX11_restOf_13 : decode cX11_restOf 13 = .ok (.iadd, 1) := by decide +kernel
theorem dX11_restOf_14 : decode cX11_restOf 14 = .ok (.istore_n 1, 1) := by decide +kernel
theorem dX11_restOf_15 : decode cX11_restOf 15 = .ok (.iinc 2 1, 3) := by decide +kernel
theorem dX11_restOf_18 : decode cX11_restOf 18 = .ok (.goto (-14), 3) := by decide +kernel
theorem dX11_restOf_21 : decode cX11_restOf 21 = .ok (.iload_n 1, 1) := by decide +kernel
theorem dX11_restOf_22 : decode cX11_restOf 22 = .ok (.ireturn, 1) := by decide +kernel
theorem dX11_hasBit_0 : decode cX11_hasBit 0 = .ok (.iload_n 0, 1) := by decide +kernel
theorem dX11_hasBit_1 : decode cX11_hasBit 1 = .ok (.iload_n 1, 1) := by decide +kernel
theorem dX11_hasBit_2 : decode cX11_hasBit 2 = .ok (.ishr, 1) := by decide +kernel
theorem dX11_hasBit_3 : decode cX11_hasBit 3 = .ok (.iconst 1, 1) := by decide +kernel
theorem dX11_hasBit_4 : decode cX11_hasBit 4 = .ok (.iand, 1) := by decide +kernel
theorem dX11_hasBit_5 : decode cX11_hasBit 5 = .ok (.iconst 1, 1) := by decide +kernel
theorem dX11_hasBit_6 : decode cX11_hasBit 6 = .ok (.if_icmp .ne 7, 3) := by decide +kernel
theorem dX11_hasBit_9 : decode cX11_hasBit 9 = .ok (.iconst 1, 1) := by decide +kernel
theorem dX11_hasBit_10 : decode cX11_hasBit 10 = .ok (.goto 4, 3) := by decide +kernel
theorem dX11_hasBit_13 : decode cX11_hasBit 13 = .ok (.iconst 0, 1) := by decide +kernel
theorem dX11_hasBit_14 : decode cX11_hasBit 14 = .ok (.ireturn, 1) := by decide +kernel
theorem dX11_isIn_0 : decode cX11_isIn 0 = .ok (.iload_n 0, 1) := by decide +kernel
theorem dX11_isIn_1 : decode cX11_isIn 1 = .ok (.iload_n 1, 1) := by decide +kernel
theorem dX11_isIn_2 : decode cX11_isIn 2 = .ok (.iconst 2, 1) := by decide +kernel
theorem dX11_isIn_3 : decode cX11_isIn 3 = .ok (.imul, 1) := by decide +kernel
theorem dX11_isIn_4 : decode cX11_isIn 4 = .ok (.ishr, 1) := by decide +kernel
theorem dX11_isIn_5 : decode cX11_isIn 5 = .ok (.iconst 3, 1) := by decide +kernel
theorem dX11_isIn_6 : decode cX11_isIn 6 = .ok (.iand, 1) := by decide +kernel
theorem dX11_isIn_7 : decode cX11_isIn 7 = .ok (.ifCond .eq 7, 3) := by decide +kernel
theorem dX11_isIn_10 : decode cX11_isIn 10 = .ok (.iconst 1, 1) := by decide +kernel
theorem dX11_isIn_11 : decode cX11_isIn 11 = .ok (.goto 4, 3) := by decide +kernel
theorem dX11_isIn_14 : decode cX11_isIn 14 = .ok (.iconst 0, 1) := by decide +kernel
theorem dX11_isIn_15 : decode cX11_isIn 15 = .ok (.ireturn, 1) := by decide +kernel
theorem dX11_stageOf_0 : decode cX11_stageOf 0 = .ok (.iload_n 0, 1) := by decide +kernel
theorem dX11_stageOf_1 : decode cX11_stageOf 1 = .ok (.getstatic 100, 3) := by decide +kernel
theorem dX11_stageOf_4 : decode cX11_stageOf 4 = .ok (.iload_n 1, 1) := by decide +kernel
theorem dX11_stageOf_5 : decode cX11_stageOf 5 = .ok (.iaload, 1) := by decide +kernel
theorem dX11_stageOf_6 : decode cX11_stageOf 6 = .ok (.idiv, 1) := by decide +kernel
theorem dX11_stageOf_7 : decode cX11_stageOf 7 = .ok (.iconst 3, 1) := by decide +kernel
theorem dX11_stageOf_8 : decode cX11_stageOf 8 = .ok (.irem, 1) := by decide +kernel
theorem dX11_stageOf_9 : decode cX11_stageOf 9 = .ok (.ireturn, 1) := by decide +kernel
theorem dX11_after_0 : decode cX11_after 0 = .ok (.iload_n 0, 1) := by decide +kernel
theorem dX11_after_1 : decode cX11_after 1 = .ok (.ifCond .lt 18, 3) := by decide +kernel
theorem dX11_after_4 : decode cX11_after 4 = .ok (.iload_n 0, 1) := by decide +kernel
theorem dX11_after_5 : decode cX11_after 5 = .ok (.iconst 3, 1) := by decide +kernel
theorem dX11_after_6 : decode cX11_after 6 = .ok (.if_icmp .ge 13, 3) := by decide +kernel
theorem dX11_after_9 : decode cX11_after 9 = .ok (.iload_n 1, 1) := by decide +kernel
theorem dX11_after_10 : decode cX11_after 10 = .ok (.getstatic 100, 3) := by decide +kernel
theorem dX11_after_13 : decode cX11_after 13 = .ok (.iload_n 0, 1) := by decide +kernel
theorem dX11_after_14 : decode cX11_after 14 = .ok (.iaload, 1) := by decide +kernel
theorem dX11_after_15 : decode cX11_after 15 = .ok (.iadd, 1) := by decide +kernel
theorem dX11_after_16 : decode cX11_after 16 = .ok (.goto 4, 3) := by decide +kernel
theorem dX11_after_19 : decode cX11_after 19 = .ok (.iload_n 1, 1) := by decide +kernel
theorem dX11_after_20 : decode cX11_after 20 = .ok (.ireturn, 1) := by decide +kernel
theorem dX11_choose_0 : decode cX11_choose 0 = .ok (.iload_n 1, 1) := by decide +kernel
theorem dX11_choose_1 : decode cX11_choose 1 = .ok (.ifCond .lt 14, 3) := by decide +kernel
theorem dX11_choose_4 : decode cX11_choose 4 = .ok (.iload_n 1, 1) := by decide +kernel
theorem dX11_choose_5 : decode cX11_choose 5 = .ok (.iload_n 0, 1) := by decide +kernel
theorem dX11_choose_6 : decode cX11_choose 6 = .ok (.if_icmp .gt 9, 3) := by decide +kernel
theorem dX11_choose_9 : decode cX11_choose 9 = .ok (.iload_n 0, 1) := by decide +kernel
theorem dX11_choose_10 : decode cX11_choose 10 = .ok (.bipush 15, 2) := by decide +kernel
theorem dX11_choose_12 : decode cX11_choose 12 = .ok (.if_icmp .le 5, 3) := by decide +kernel
theorem dX11_choose_15 : decode cX11_choose 15 = .ok (.iconst 0, 1) := by decide +kernel
theorem dX11_choose_16 : decode cX11_choose 16 = .ok (.ireturn, 1) := by decide +kernel
theorem dX11_choose_17 : decode cX11_choose 17 = .ok (.getstatic 251, 3) := by decide +kernel
theorem dX11_choose_20 : decode cX11_choose 20 = .ok (.iload_n 0, 1) := by decide +kernel
theorem dX11_choose_21 : decode cX11_choose 21 = .ok (.iload_n 0, 1) := by decide +kernel
theorem dX11_choose_22 : decode cX11_choose 22 = .ok (.iconst 1, 1) := by decide +kernel
theorem dX11_choose_23 : decode cX11_choose 23 = .ok (.iadd, 1) := by decide +kernel
theorem dX11_choose_24 : decode cX11_choose 24 = .ok (.imul, 1) := by decide +kernel
theorem dX11_choose_25 : decode cX11_choose 25 = .ok (.iconst 2, 1) := by decide +kernel
theorem dX11_choose_26 : decode cX11_choose 26 = .ok (.idiv, 1) := by decide +kernel
theorem dX11_choose_27 : decode cX11_choose 27 = .ok (.iload_n 1, 1) := by decide +kernel
theorem dX11_choose_28 : decode cX11_choose 28 = .ok (.iadd, 1) := by decide +kernel
theorem dX11_choose_29 : decode cX11_choose 29 = .ok (.iaload, 1) := by decide +kernel
theorem dX11_choose_30 : decode cX11_choose 30 = .ok (.ireturn, 1) := by decide +kernel
theorem dX11_ordersOf_0 : decode cX11_ordersOf 0 = .ok (.aload_n 0, 1) := by decide +kernel
theorem dX11_ordersOf_1 : decode cX11_ordersOf 1 = .ok (.invokestatic 86, 3) := by decide +kernel
theorem dX11_ordersOf_4 : decode cX11_ordersOf 4 = .ok (.istore_n 1, 1) := by decide +kernel
theorem dX11_ordersOf_5 : decode cX11_ordersOf 5 = .ok (.iload_n 1, 1) := by decide +kernel
theorem dX11_ordersOf_6 : decode cX11_ordersOf 6 = .ok (.aload_n 0, 1) := by decide +kernel
theorem dX11_ordersOf_7 : decode cX11_ordersOf 7 = .ok (.iconst 0, 1) := by decide +kernel
theorem dX11_ordersOf_8 : decode cX11_ordersOf 8 = .ok (.iaload, 1) := by decide +kernel
theorem dX11_ordersOf_9 : decode cX11_ordersOf 9 = .ok (.invokestatic 167, 3) := by decide +kernel
theorem dX11_ordersOf_12 : decode cX11_ordersOf 12 = .ok (.iload_n 1, 1) := by decide +kernel
theorem dX11_ordersOf_13 : decode cX11_ordersOf 13 = .ok (.aload_n 0, 1) := by decide +kernel
theorem dX11_ordersOf_14 : decode cX11_ordersOf 14 = .ok (.iconst 0, 1) := by decide +kernel
theorem dX11_ordersOf_15 : decode cX11_ordersOf 15 = .ok (.iaload, 1) := by decide +kernel
theorem dX11_ordersOf_16 : decode cX11_ordersOf 16 = .ok (.isub, 1) := by decide +kernel
theorem dX11_ordersOf_17 : decode cX11_ordersOf 17 = .ok (.aload_n 0, 1) := by decide +kernel
theorem dX11_ordersOf_18 : decode cX11_ordersOf 18 = .ok (.iconst 1, 1) := by decide +kernel
theorem dX11_ordersOf_19 : decode cX11_ordersOf 19 = .ok (.iaload, 1) := by decide +kernel
theorem dX11_ordersOf_20 : decode cX11_ordersOf 20 = .ok (.invokestatic 167, 3) := by decide +kernel
theorem dX11_ordersOf_23 : decode cX11_ordersOf 23 = .ok (.imul, 1) := by decide +kernel
theorem dX11_ordersOf_24 : decode cX11_ordersOf 24 = .ok (.ireturn, 1) := by decide +kernel
theorem dX11_lowest_0 : decode cX11_lowest 0 = .ok (.lload_n 0, 1) := by decide +kernel
theorem dX11_lowest_1 : decode cX11_lowest 1 = .ok (.invokestatic 254, 3) := by decide +kernel
theorem dX11_lowest_4 : decode cX11_lowest 4 = .ok (.lload_n 2, 1) := by decide +kernel
theorem dX11_lowest_5 : decode cX11_lowest 5 = .ok (.invokestatic 258, 3) := by decide +kernel
theorem dX11_lowest_8 : decode cX11_lowest 8 = .ok (.lstore 5, 2) := by decide +kernel
theorem dX11_lowest_10 : decode cX11_lowest 10 = .ok (.lload 5, 2) := by decide +kernel
theorem dX11_lowest_12 : decode cX11_lowest 12 = .ok (.lconst 0, 1) := by decide +kernel
theorem dX11_lowest_13 : decode cX11_lowest 13 = .ok (.lcmp, 1) := by decide +kernel
theorem dX11_lowest_14 : decode cX11_lowest 14 = .ok (.ifCond .ne 7, 3) := by decide +kernel
theorem dX11_lowest_17 : decode cX11_lowest 17 = .ok (.ldc2_w 156, 3) := by decide +kernel
theorem dX11_lowest_20 : decode cX11_lowest 20 = .ok (.lreturn, 1) := by decide +kernel
theorem dX11_lowest_21 : decode cX11_lowest 21 = .ok (.iload 4, 2) := by decide +kernel
theorem dX11_lowest_23 : decode cX11_lowest 23 = .ok (.ifCond .ne 7, 3) := by decide +kernel
theorem dX11_lowest_26 : decode cX11_lowest 26 = .ok (.lload_n 0, 1) := by decide +kernel
theorem dX11_lowest_27 : decode cX11_lowest 27 = .ok (.goto 4, 3) := by decide +kernel
theorem dX11_lowest_30 : decode cX11_lowest 30 = .ok (.lload_n 2, 1) := by decide +kernel
theorem dX11_lowest_31 : decode cX11_lowest 31 = .ok (.lload 5, 2) := by decide +kernel
theorem dX11_lowest_33 : decode cX11_lowest 33 = .ok (.ldiv, 1) := by decide +kernel
theorem dX11_lowest_34 : decode cX11_lowest 34 = .ok (.lreturn, 1) := by decide +kernel
theorem dX11_commonOf_0 : decode cX11_commonOf 0 = .ok (.iconst 0, 1) := by decide +kernel
theorem dX11_commonOf_1 : decode cX11_commonOf 1 = .ok (.istore 4, 2) := by decide +kernel
theorem dX11_commonOf_3 : decode cX11_commonOf 3 = .ok (.iload 4, 2) := by decide +kernel
theorem dX11_commonOf_5 : decode cX11_commonOf 5 = .ok (.sipush 200, 3) := by decide +kernel
theorem dX11_commonOf_8 : decode cX11_commonOf 8 = .ok (.if_icmp .ge 25, 3) := by decide +kernel
theorem dX11_commonOf_11 : decode cX11_commonOf 11 = .ok (.lload_n 2, 1) := by decide +kernel
theorem dX11_commonOf_12 : decode cX11_commonOf 12 = .ok (.lconst 0, 1) := by decide +kernel
theorem dX11_commonOf_13 : decode cX11_commonOf 13 = .ok (.lcmp, 1) := by decide +kernel
theorem dX11_commonOf_14 : decode cX11_commonOf 14 = .ok (.ifCond .eq 19, 3) := by decide +kernel
theorem dX11_commonOf_17 : decode cX11_commonOf 17 = .ok (.lload_n 0, 1) := by decide +kernel
theorem dX11_commonOf_18 : decode cX11_commonOf 18 = .ok (.lload_n 2, 1) := by decide +kernel
theorem dX11_commonOf_19 : decode cX11_commonOf 19 = .ok (.lrem, 1) := by decide +kernel
theorem dX11_commonOf_20 : decode cX11_commonOf 20 = .ok (.lstore 5, 2) := by decide +kernel
theorem dX11_commonOf_22 : decode cX11_commonOf 22 = .ok (.lload_n 2, 1) := by decide +kernel
theorem dX11_commonOf_23 : decode cX11_commonOf 23 = .ok (.lstore_n 0, 1) := by decide +kernel
theorem dX11_commonOf_24 : decode cX11_commonOf 24 = .ok (.lload 5, 2) := by decide +kernel
theorem dX11_commonOf_26 : decode cX11_commonOf 26 = .ok (.lstore_n 2, 1) := by decide +kernel
theorem dX11_commonOf_27 : decode cX11_commonOf 27 = .ok (.iinc 4 1, 3) := by decide +kernel
theorem dX11_commonOf_30 : decode cX11_commonOf 30 = .ok (.goto (-27), 3) := by decide +kernel
theorem dX11_commonOf_33 : decode cX11_commonOf 33 = .ok (.lload_n 0, 1) := by decide +kernel
theorem dX11_commonOf_34 : decode cX11_commonOf 34 = .ok (.lreturn, 1) := by decide +kernel
theorem dX11_workerAt_0 : decode cX11_workerAt 0 = .ok (.iload_n 1, 1) := by decide +kernel
theorem dX11_workerAt_1 : decode cX11_workerAt 1 = .ok (.ifCond .lt 26, 3) := by decide +kernel
theorem dX11_workerAt_4 : decode cX11_workerAt 4 = .ok (.iload_n 1, 1) := by decide +kernel
theorem dX11_workerAt_5 : decode cX11_workerAt 5 = .ok (.aload_n 0, 1) := by decide +kernel
theorem dX11_workerAt_6 : decode cX11_workerAt 6 = .ok (.getfield 21, 3) := by decide +kernel
theorem dX11_workerAt_9 : decode cX11_workerAt 9 = .ok (.getfield 103, 3) := by decide +kernel
theorem dX11_workerAt_12 : decode cX11_workerAt 12 = .ok (.if_icmp .ge 15, 3) := by decide +kernel
theorem dX11_workerAt_15 : decode cX11_workerAt 15 = .ok (.aload_n 0, 1) := by decide +kernel
theorem dX11_workerAt_16 : decode cX11_workerAt 16 = .ok (.getfield 21, 3) := by decide +kernel
theorem dX11_workerAt_19 : decode cX11_workerAt 19 = .ok (.getfield 106, 3) := by decide +kernel
theorem dX11_workerAt_22 : decode cX11_workerAt 22 = .ok (.iload_n 1, 1) := by decide +kernel
theorem dX11_workerAt_23 : decode cX11_workerAt 23 = .ok (.aaload, 1) := by decide +kernel
theorem dX11_workerAt_24 : decode cX11_workerAt 24 = .ok (.goto 4, 3) := by decide +kernel
theorem dX11_workerAt_27 : decode cX11_workerAt 27 = .ok (.aconst_null, 1) := by decide +kernel
theorem dX11_workerAt_28 : decode cX11_workerAt 28 = .ok (.areturn, 1) := by decide +kernel
theorem dX11_workNow_0 : decode cX11_workNow 0 = .ok (.aload_n 0, 1) := by decide +kernel
theorem dX11_workNow_1 : decode cX11_workNow 1 = .ok (.getfield 40, 3) := by decide +kernel
theorem dX11_workNow_4 : decode cX11_workNow 4 = .ok (.aload_n 0, 1) := by decide +kernel
theorem dX11_workNow_5 : decode cX11_workNow 5 = .ok (.getfield 21, 3) := by decide +kernel
theorem dX11_workNow_8 : decode cX11_workNow 8 = .ok (.iconst (-1), 1) := by decide +kernel
theorem dX11_workNow_9 : decode cX11_workNow 9 = .ok (.iconst (-1), 1) := by decide +kernel
theorem dX11_workNow_10 : decode cX11_workNow 10 = .ok (.invokevirtual 173, 3) := by decide +kernel
theorem dX11_workNow_13 : decode cX11_workNow 13 = .ok (.aload_n 0, 1) := by decide +kernel
theorem dX11_workNow_14 : decode cX11_workNow 14 = .ok (.getfield 40, 3) := by decide +kernel
theorem dX11_workNow_17 : decode cX11_workNow 17 = .ok (.iload_n 2, 1) := by decide +kernel
theorem dX11_workNow_18 : decode cX11_workNow 18 = .ok (.invokevirtual 187, 3) := by decide +kernel
theorem dX11_workNow_21 : decode cX11_workNow 21 = .ok (.aload_n 1, 1) := by decide +kernel
theorem dX11_workNow_22 : decode cX11_workNow 22 = .ok (.aload_n 0, 1) := by decide +kernel
theorem dX11_workNow_23 : decode cX11_workNow 23 = .ok (.getfield 40, 3) := by decide +kernel
theorem dX11_workNow_26 : decode cX11_workNow 26 = .ok (.iload_n 2, 1) := by decide +kernel
theorem dX11_workNow_27 : decode cX11_workNow 27 = .ok (.aload_n 0, 1) := by decide +kernel
theorem dX11_workNow_28 : decode cX11_workNow 28 = .ok (.getfield 21, 3) := by decide +kernel
theorem dX11_workNow_31 : decode cX11_workNow 31 = .ok (.getfield 93, 3) := by decide +kernel
theorem dX11_workNow_34 : decode cX11_workNow 34 = .ok (.invokevirtual 222, 3) := by decide +kernel
theorem dX11_workNow_37 : decode cX11_workNow 37 = .ok (.ireturn, 1) := by decide +kernel
theorem dX11_ordersByBook_0 : decode cX11_ordersByBook 0 = .ok (.aload_n 1, 1) := by decide +kernel
theorem dX11_ordersByBook_1 : decode cX11_ordersByBook 1 = .ok (.invokevirtual 262, 3) := by decide +kernel
theorem dX11_ordersByBook_4 : decode cX11_ordersByBook 4 = .ok (.checkcast 263, 3) := by decide +kernel
theorem dX11_ordersByBook_7 : decode cX11_ordersByBook 7 = .ok (.astore_n 2, 1) := by decide +kernel
theorem dX11_ordersByBook_8 : decode cX11_ordersByBook 8 = .ok (.iconst 0, 1) := by decide +kernel
theorem dX11_ordersByBook_9 : decode cX11_ordersByBook 9 = .ok (.istore_n 3, 1) := by decide +kernel
theorem dX11_ordersByBook_10 : decode cX11_ordersByBook 10 = .ok (.iload_n 3, 1) := by decide +kernel
theorem dX11_ordersByBook_11 : decode cX11_ordersByBook 11 = .ok (.aload_n 0, 1) := by decide +kernel
theorem dX11_ordersByBook_12 : decode cX11_ordersByBook 12 = .ok (.getfield 21, 3) := by decide +kernel
theorem dX11_ordersByBook_15 : decode cX11_ordersByBook 15 = .ok (.getfield 210, 3) := by decide +kernel
theorem dX11_ordersByBook_18 : decode cX11_ordersByBook 18 = .ok (.if_icmp .ge 37, 3) := by decide +kernel
theorem dX11_ordersByBook_21 : decode cX11_ordersByBook 21 = .ok (.aload_n 0, 1) := by decide +kernel
theorem dX11_ordersByBook_22 : decode cX11_ordersByBook 22 = .ok (.getfield 21, 3) := by decide +kernel
theorem dX11_ordersByBook_25 : decode cX11_ordersByBook 25 = .ok (.getfield 213, 3) := by decide +kernel
theorem dX11_ordersByBook_28 : decode cX11_ordersByBook 28 = .ok (.iload_n 3, 1) := by decide +kernel
theorem dX11_ordersByBook_29 : decode cX11_ordersByBook 29 = .ok (.iaload, 1) := by decide +kernel
theorem dX11_ordersByBook_30 : decode cX11_ordersByBook 30 = .ok (.istore 4, 2) := by decide +kernel
theorem dX11_ordersByBook_32 : decode cX11_ordersByBook 32 = .ok (.aload_n 2, 1) := by decide +kernel
theorem dX11_ordersByBook_33 : decode cX11_ordersByBook 33 = .ok (.iload 4, 2) := by decide +kernel
theorem dX11_ordersByBook_35 : decode cX11_ordersByBook 35 = .ok (.iaload, 1) := by decide +kernel
theorem dX11_ordersByBook_36 : decode cX11_ordersByBook 36 = .ok (.ifCond .ne 5, 3) := by decide +kernel
theorem dX11_ordersByBook_39 : decode cX11_ordersByBook 39 = .ok (.iconst 0, 1) := by decide +kernel
theorem dX11_ordersByBook_40 : decode cX11_ordersByBook 40 = .ok (.ireturn, 1) := by decide +kernel
theorem dX11_ordersByBook_41 : decode cX11_ordersByBook 41 = .ok (.aload_n 2, 1) := by decide +kernel
theorem dX11_ordersByBook_42 : decode cX11_ordersByBook 42 = .ok (.iload 4, 2) := by decide +kernel
theorem dX11_ordersByBook_44 : decode cX11_ordersByBook 44 = .ok (.dup2, 1) := by decide +kernel
theorem dX11_ordersByBook_45 : decode cX11_ordersByBook 45 = .ok (.iaload, 1) := by decide +kernel
theorem dX11_ordersByBook_46 : decode cX11_ordersByBook 46 = .ok (.iconst 1, 1) := by decide +kernel
theorem dX11_ordersByBook_47 : decode cX11_ordersByBook 47 = .ok (.isub, 1) := by decide +kernel
theorem dX11_ordersByBook_48 : decode cX11_ordersByBook 48 = .ok (.iastore, 1) := by decide +kernel
theorem dX11_ordersByBook_49 : decode cX11_ordersByBook 49 = .ok (.iinc 3 1, 3) := by decide +kernel
theorem dX11_ordersByBook_52 : decode cX11_ordersByBook 52 = .ok (.goto (-42), 3) := by decide +kernel
theorem dX11_ordersByBook_55 : decode cX11_ordersByBook 55 = .ok (.aload_n 2, 1) := by decide +kernel
theorem dX11_ordersByBook_56 : decode cX11_ordersByBook 56 = .ok (.invokestatic 170, 3) := by decide +kernel
theorem dX11_ordersByBook_59 : decode cX11_ordersByBook 59 = .ok (.ireturn, 1) := by decide +kernel
theorem dX11_hired_0 : decode cX11_hired 0 = .ok (.iload_n 0, 1) := by decide +kernel
theorem dX11_hired_1 : decode cX11_hired 1 = .ok (.tableswitch 106 1 6 #[39, 50, 61, 72, 83, 94], 39) := by decide +kernel
theorem dX11_hired_40 : decode cX11_hired 40 = .ok (.new 267, 3) := by decide +kernel
theorem dX11_hired_43 : decode cX11_hired 43 = .ok (.dup, 1) := by decide +kernel
theorem dX11_hired_44 : decode cX11_hired 44 = .ok (.iload_n 0, 1) := by decide +kernel
theorem dX11_hired_45 : decode cX11_hired 45 = .ok (.iload_n 1, 1) := by decide +kernel
theorem dX11_hired_46 : decode cX11_hired 46 = .ok (.iload_n 2, 1) := by decide +kernel
theorem dX11_hired_47 : decode cX11_hired 47 = .ok (.invokespecial 269, 3) := by decide +kernel
theorem dX11_hired_50 : decode cX11_hired 50 = .ok (.areturn, 1) := by decide +kernel
theorem dX11_hired_51 : decode cX11_hired 51 = .ok (.new 272, 3) := by decide +kernel
theorem dX11_hired_54 : decode cX11_hired 54 = .ok (.dup, 1) := by decide +kernel
theorem dX11_hired_55 : decode cX11_hired 55 = .ok (.iload_n 0, 1) := by decide +kernel
theorem dX11_hired_56 : decode cX11_hired 56 = .ok (.iload_n 1, 1) := by decide +kernel
theorem dX11_hired_57 : decode cX11_hired 57 = .ok (.iload_n 2, 1) := by decide +kernel
theorem dX11_hired_58 : decode cX11_hired 58 = .ok (.invokespecial 274, 3) := by decide +kernel
theorem dX11_hired_61 : decode cX11_hired 61 = .ok (.areturn, 1) := by decide +kernel
theorem dX11_hired_62 : decode cX11_hired 62 = .ok (.new 275, 3) := by decide +kernel
theorem dX11_hired_65 : decode cX11_hired 65 = .ok (.dup, 1) := by decide +kernel
theorem dX11_hired_66 : decode cX11_hired 66 = .ok (.iload_n 0, 1) := by decide +kernel
theorem dX11_hired_67 : decode cX11_hired 67 = .ok (.iload_n 1, 1) := by decide +kernel
theorem dX11_hired_68 : decode cX11_hired 68 = .ok (.iload_n 2, 1) := by decide +kernel
theorem dX11_hired_69 : decode cX11_hired 69 = .ok (.invokespecial 277, 3) := by decide +kernel
theorem dX11_hired_72 : decode cX11_hired 72 = .ok (.areturn, 1) := by decide +kernel
theorem dX11_hired_73 : decode cX11_hired 73 = .ok (.new 278, 3) := by decide +kernel
theorem dX11_hired_76 : decode cX11_hired 76 = .ok (.dup, 1) := by decide +kernel
theorem dX11_hired_77 : decode cX11_hired 77 = .ok (.iload_n 0, 1) := by decide +kernel
theorem dX11_hired_78 : decode cX11_hired 78 = .ok (.iload_n 1, 1) := by decide +kernel
theorem dX11_hired_79 : decode cX11_hired 79 = .ok (.iload_n 2, 1) := by decide +kernel
theorem dX11_hired_80 : decode cX11_hired 80 = .ok (.invokespecial 280, 3) := by decide +kernel
theorem dX11_hired_83 : decode cX11_hired 83 = .ok (.areturn, 1) := by decide +kernel
theorem dX11_hired_84 : decode cX11_hired 84 = .ok (.new 281, 3) := by decide +kernel
theorem dX11_hired_87 : decode cX11_hired 87 = .ok (.dup, 1) := by decide +kernel
theorem dX11_hired_88 : decode cX11_hired 88 = .ok (.iload_n 0, 1) := by decide +kernel
theorem dX11_hired_89 : decode cX11_hired 89 = .ok (.iload_n 1, 1) := by decide +kernel
theorem dX11_hired_90 : decode cX11_hired 90 = .ok (.iload_n 2, 1) := by decide +kernel
theorem dX11_hired_91 : decode cX11_hired 91 = .ok (.invokespecial 283, 3) := by decide +kernel
theorem dX11_hired_94 : decode cX11_hired 94 = .ok (.areturn, 1) := by decide +kernel
theorem dX11_hired_95 : decode cX11_hired 95 = .ok (.new 122, 3) := by decide +kernel
theorem dX11_hired_98 : decode cX11_hired 98 = .ok (.dup, 1) := by decide +kernel
theorem dX11_hired_99 : decode cX11_hired 99 = .ok (.iload_n 1, 1) := by decide +kernel
theorem dX11_hired_100 : decode cX11_hired 100 = .ok (.iload_n 2, 1) := by decide +kernel
theorem dX11_hired_101 : decode cX11_hired 101 = .ok (.bipush 63, 2) := by decide +kernel
theorem dX11_hired_103 : decode cX11_hired 103 = .ok (.invokespecial 284, 3) := by decide +kernel
theorem dX11_hired_106 : decode cX11_hired 106 = .ok (.areturn, 1) := by decide +kernel
theorem dX11_hired_107 : decode cX11_hired 107 = .ok (.new 133, 3) := by decide +kernel
theorem dX11_hired_110 : decode cX11_hired 110 = .ok (.dup, 1) := by decide +kernel
theorem dX11_hired_111 : decode cX11_hired 111 = .ok (.iload_n 0, 1) := by decide +kernel
theorem dX11_hired_112 : decode cX11_hired 112 = .ok (.iload_n 1, 1) := by decide +kernel
theorem dX11_hired_113 : decode cX11_hired 113 = .ok (.iload_n 2, 1) := by decide +kernel
theorem dX11_hired_114 : decode cX11_hired 114 = .ok (.invokespecial 285, 3) := by decide +kernel
theorem dX11_hired_117 : decode cX11_hired 117 = .ok (.areturn, 1) := by decide +kernel
theorem dX11_lonely_0 : decode cX11_lonely 0 = .ok (.new 122, 3) := by decide +kernel
theorem dX11_lonely_3 : decode cX11_lonely 3 = .ok (.dup, 1) := by decide +kernel
theorem dX11_lonely_4 : decode cX11_lonely 4 = .ok (.iconst 0, 1) := by decide +kernel
theorem dX11_lonely_5 : decode cX11_lonely 5 = .ok (.iconst (-1), 1) := by decide +kernel
theorem dX11_lonely_6 : decode cX11_lonely 6 = .ok (.iload_n 0, 1) := by decide +kernel
theorem dX11_lonely_7 : decode cX11_lonely 7 = .ok (.iload_n 0, 1) := by decide +kernel
theorem dX11_lonely_8 : decode cX11_lonely 8 = .ok (.iconst 2, 1) := by decide +kernel
theorem dX11_lonely_9 : decode cX11_lonely 9 = .ok (.ishl, 1) := by decide +kernel
theorem dX11_lonely_10 : decode cX11_lonely 10 = .ok (.ior, 1) := by decide +kernel
theorem dX11_lonely_11 : decode cX11_lonely 11 = .ok (.iload_n 0, 1) := by decide +kernel
theorem dX11_lonely_12 : decode cX11_lonely 12 = .ok (.iconst 4, 1) := by decide +kernel
theorem dX11_lonely_13 : decode cX11_lonely 13 = .ok (.ishl, 1) := by decide +kernel
theorem dX11_lonely_14 : decode cX11_lonely 14 = .ok (.ior, 1) := by decide +kernel
theorem dX11_lonely_15 : decode cX11_lonely 15 = .ok (.invokespecial 284, 3) := by decide +kernel
theorem dX11_lonely_18 : decode cX11_lonely 18 = .ok (.areturn, 1) := by decide +kernel
theorem dX11_isOf_0 : decode cX11_isOf 0 = .ok (.iload_n 1, 1) := by decide +kernel
theorem dX11_isOf_1 : decode cX11_isOf 1 = .ok (.tableswitch 69 1 6 #[39, 44, 49, 54, 59, 64], 39) := by decide +kernel
theorem dX11_isOf_40 : decode cX11_isOf 40 = .ok (.aload_n 0, 1) := by decide +kernel
theorem dX11_isOf_41 : decode cX11_isOf 41 = .ok (.instanceof 267, 3) := by decide +kernel
theorem dX11_isOf_44 : decode cX11_isOf 44 = .ok (.ireturn, 1) := by decide +kernel
theorem dX11_isOf_45 : decode cX11_isOf 45 = .ok (.aload_n 0, 1) := by decide +kernel
theorem dX11_isOf_46 : decode cX11_isOf 46 = .ok (.instanceof 272, 3) := by decide +kernel
theorem dX11_isOf_49 : decode cX11_isOf 49 = .ok (.ireturn, 1) := by decide +kernel
theorem dX11_isOf_50 : decode cX11_isOf 50 = .ok (.aload_n 0, 1) := by decide +kernel
theorem dX11_isOf_51 : decode cX11_isOf 51 = .ok (.instanceof 275, 3) := by decide +kernel
theorem dX11_isOf_54 : decode cX11_isOf 54 = .ok (.ireturn, 1) := by decide +kernel
theorem dX11_isOf_55 : decode cX11_isOf 55 = .ok (.aload_n 0, 1) := by decide +kernel
theorem dX11_isOf_56 : decode cX11_isOf 56 = .ok (.instanceof 278, 3) := by decide +kernel
theorem dX11_isOf_59 : decode cX11_isOf 59 = .ok (.ireturn, 1) := by decide +kernel
theorem dX11_isOf_60 : decode cX11_isOf 60 = .ok (.aload_n 0, 1) := by decide +kernel
theorem dX11_isOf_61 : decode cX11_isOf 61 = .ok (.instanceof 281, 3) := by decide +kernel
theorem dX11_isOf_64 : decode cX11_isOf 64 = .ok (.ireturn, 1) := by decide +kernel
theorem dX11_isOf_65 : decode cX11_isOf 65 = .ok (.aload_n 0, 1) := by decide +kernel
theorem dX11_isOf_66 : decode cX11_isOf 66 = .ok (.instanceof 122, 3) := by decide +kernel
theorem dX11_isOf_69 : decode cX11_isOf 69 = .ok (.ireturn, 1) := by decide +kernel
theorem dX11_isOf_70 : decode cX11_isOf 70 = .ok (.iconst 1, 1) := by decide +kernel
theorem dX11_isOf_71 : decode cX11_isOf 71 = .ok (.ireturn, 1) := by decide +kernel
theorem dX12_init_0 : decode cX12_init 0 = .ok (.aload_n 0, 1) := by decide +kernel
theorem dX12_init_1 : decode cX12_init 1 = .ok (.invokespecial 3, 3) := by decide +kernel
theorem dX12_init_4 : decode cX12_init 4 = .ok (.aload_n 0, 1) := by decide +kernel
theorem dX12_init_5 : decode cX12_init 5 = .ok (.sipush 892, 3) := by decide +kernel
theorem dX12_init_8 : decode cX12_init 8 = .ok (.newarray .int, 2) := by decide +kernel
theorem dX12_init_10 : decode cX12_init 10 = .ok (.putfield 9, 3) := by decide +kernel
theorem dX12_init_13 : decode cX12_init 13 = .ok (.aload_n 0, 1) := by decide +kernel
theorem dX12_init_14 : decode cX12_init 14 = .ok (.sipush 892, 3) := by decide +kernel
theorem dX12_init_17 : decode cX12_init 17 = .ok (.newarray .int, 2) := by decide +kernel
theorem dX12_init_19 : decode cX12_init 19 = .ok (.putfield 15, 3) := by decide +kernel
theorem dX12_init_22 : decode cX12_init 22 = .ok (.aload_n 0, 1) := by decide +kernel
theorem dX12_init_23 : decode cX12_init 23 = .ok (.iconst 5, 1) := by decide +kernel
theorem dX12_init_24 : decode cX12_init 24 = .ok (.newarray .int, 2) := by decide +kernel
theorem dX12_init_26 : decode cX12_init 26 = .ok (.putfield 18, 3) := by decide +kernel
theorem dX12_init_29 : decode cX12_init 29 = .ok (.aload_n 0, 1) := by decide +kernel
theorem dX12_init_30 : decode cX12_init 30 = .ok (.bipush 64, 2) := by decide +kernel
theorem dX12_init_32 : decode cX12_init 32 = .ok (.newarray .boolean, 2) := by decide +kernel
theorem dX12_init_34 : decode cX12_init 34 = .ok (.putfield 21, 3) := by decide +kernel
theorem dX12_init_37 : decode cX12_init 37 = .ok (.aload_n 0, 1) := by decide +kernel
theorem dX12_init_38 : decode cX12_init 38 = .ok (.sipush 1728, 3) := by decide +kernel
theorem dX12_init_41 : decode cX12_init 41 = .ok (.newarray .int, 2) := by decide +kernel
theorem dX12_init_43 : decode cX12_init 43 = .ok (.putfield 25, 3) := by decide +kernel
theorem dX12_init_46 : decode cX12_init 46 = .ok (.aload_n 0, 1) := by decide +kernel
theorem dX12_init_47 : decode cX12_init 47 = .ok (.sipush 5832, 3) := by decide +kernel
theorem dX12_init_50 : decode cX12_init 50 = .ok (.newarray .long, 2) := by decide +kernel
theorem dX12_init_52 : decode cX12_init 52 = .ok (.putfield 28, 3) := by decide +kernel
theorem dX12_init_55 : decode cX12_init 55 = .ok (.aload_n 0, 1) := by decide +kernel
theorem dX12_init_56 : decode cX12_init 56 = .ok (.sipush 5832, 3) := by decide +kernel
theorem dX12_init_59 : decode cX12_init 59 = .ok (.newarray .int, 2) := by decide +kernel
theorem dX12_init_61 : decode cX12_init 61 = .ok (.putfield 32, 3) := by decide +kernel
theorem dX12_init_64 : decode cX12_init 64 = .ok (.aload_n 0, 1) := by decide +kernel
theorem dX12_init_65 : decode cX12_init 65 = .ok (.sipush 17496, 3) := by decide +kernel
theorem dX12_init_68 : decode cX12_init 68 = .ok (.newarray .int, 2) := by decide +kernel
theorem dX12_init_70 : decode cX12_init 70 = .ok (.putfield 35, 3) := by decide +kernel
theorem dX12_init_73 : decode cX12_init 73 = .ok (.aload_n 0, 1) := by decide +kernel
theorem dX12_init_74 : decode cX12_init 74 = .ok (.sipush 5832, 3) := by decide +kernel
theorem dX12_init_77 : decode cX12_init 77 = .ok (.newarray .long, 2) := by decide +kernel
theorem dX12_init_79 : decode cX12_init 79 = .ok (.putfield 38, 3) := by decide +kernel
theorem dX12_init_82 : decode cX12_init 82 = .ok (.aload_n 0, 1) := by decide +kernel
theorem dX12_init_83 : decode cX12_init 83 = .ok (.sipush 5832, 3) := by decide +kernel
theorem dX12_init_86 : decode cX12_init 86 = .ok (.newarray .long, 2) := by decide +kernel
theorem dX12_init_88 : decode cX12_init 88 = .ok (.putfield 41, 3) := by decide +kernel
theorem dX12_init_91 : decode cX12_init 91 = .ok (.aload_n 0, 1) := by decide +kernel
theorem dX12_init_92 : decode cX12_init 92 = .ok (.sipush 5832, 3) := by decide +kernel
theorem dX12_init_95 : decode cX12_init 95 = .ok (.newarray .int, 2) := by decide +kernel
theorem dX12_init_97 : decode cX12_init 97 = .ok (.putfield 44, 3) := by decide +kernel
theorem dX12_init_100 : decode cX12_init 100 = .ok (.aload_n 0, 1) := by decide +kernel
theorem dX12_init_101 : decode cX12_init 101 = .ok (.sipush 5832, 3) := by decide +kernel
theorem dX12_init_104 : decode cX12_init 104 = .ok (.newarray .int, 2) := by decide +kernel
theorem dX12_init_106 : decode cX12_init 106 = .ok (.putfield 47, 3) := by decide +kernel
theorem dX12_init_109 : decode cX12_init 109 = .ok (.aload_n 0, 1) := by decide +kernel
theorem dX12_init_110 : decode cX12_init 110 = .ok (.sipush 5832, 3) := by decide +kernel
theorem dX12_init_113 : decode cX12_init 113 = .ok (.newarray .int, 2) := by decide +kernel
theorem dX12_init_115 : decode cX12_init 115 = .ok (.putfield 50, 3) := by decide +kernel
theorem dX12_init_118 : decode cX12_init 118 = .ok (.aload_n 0, 1) := by decide +kernel
theorem dX12_init_119 : decode cX12_init 119 = .ok (.sipush 5832, 3) := by decide +kernel
theorem dX12_init_122 : decode cX12_init 122 = .ok (.newarray .int, 2) := by decide +kernel
theorem dX12_init_124 : decode cX12_init 124 = .ok (.putfield 53, 3) := by decide +kernel
theorem dX12_init_127 : decode cX12_init 127 = .ok (.aload_n 0, 1) := by decide +kernel
theorem dX12_init_128 : decode cX12_init 128 = .ok (.sipush 5832, 3) := by decide +kernel
theorem dX12_init_131 : decode cX12_init 131 = .ok (.newarray .long, 2) := by decide +kernel
theorem dX12_init_133 : decode cX12_init 133 = .ok (.putfield 56, 3) := by decide +kernel
theorem dX12_init_136 : decode cX12_init 136 = .ok (.aload_n 0, 1) := by decide +kernel
theorem dX12_init_137 : decode cX12_init 137 = .ok (.sipush 5832, 3) := by decide +kernel
theorem dX12_init_140 : decode cX12_init 140 = .ok (.newarray .int, 2) := by decide +kernel
theorem dX12_init_142 : decode cX12_init 142 = .ok (.putfield 59, 3) := by decide +kernel
theorem dX12_init_145 : decode cX12_init 145 = .ok (.aload_n 0, 1) := by decide +kernel
theorem dX12_init_146 : decode cX12_init 146 = .ok (.bipush 20, 2) := by decide +kernel
theorem dX12_init_148 : decode cX12_init 148 = .ok (.newarray .int, 2) := by decide +kernel
theorem dX12_init_150 : decode cX12_init 150 = .ok (.putfield 62, 3) := by decide +kernel
theorem dX12_init_153 : decode cX12_init 153 = .ok (.aload_n 0, 1) := by decide +kernel
theorem dX12_init_154 : decode cX12_init 154 = .ok (.getfield 9, 3) := by decide +kernel
theorem dX12_init_157 : decode cX12_init 157 = .ok (.iconst 4, 1) := by decide +kernel
theorem dX12_init_158 : decode cX12_init 158 = .ok (.iconst (-1), 1) := by decide +kernel
theorem dX12_init_159 : decode cX12_init 159 = .ok (.iastore, 1) := by decide +kernel
theorem dX12_init_160 : decode cX12_init 160 = .ok (.iconst 0, 1) := by decide +kernel
theorem dX12_init_161 : decode cX12_init 161 = .ok (.istore_n 1, 1) := by decide +kernel
theorem dX12_init_162 : decode cX12_init 162 = .ok (.iload_n 1, 1) := by decide +kernel
theorem dX12_init_163 : decode cX12_init 163 = .ok (.bipush 24, 2) := by decide +kernel
theorem dX12_init_165 : decode cX12_init 165 = .ok (.if_icmp .ge 20, 3) := by decide +kernel
theorem dX12_init_168 : decode cX12_init 168 = .ok (.aload_n 0, 1) := by decide +kernel
theorem dX12_init_169 : decode cX12_init 169 = .ok (.getfield 9, 3) := by decide +kernel
theorem dX12_init_172 : decode cX12_init 172 = .ok (.sipush 128, 3) := by decide +kernel
theorem dX12_init_175 : decode cX12_init 175 = .ok (.iload_n 1, 1) := by decide +kernel
theorem dX12_init_176 : decode cX12_init 176 = .ok (.iadd, 1) := by decide +kernel
theorem dX12_init_177 : decode cX12_init 177 = .ok (.iconst 3, 1) := by decide +kernel
theorem dX12_init_178 : decode cX12_init 178 = .ok (.iastore, 1) := by decide +kernel
theorem dX12_init_179 : decode cX12_init 179 = .ok (.iinc 1 1, 3) := by decide +kernel
theorem dX12_init_182 : decode cX12_init 182 = .ok (.goto (-20), 3) := by decide +kernel
theorem dX12_init_185 : decode cX12_init 185 = .ok (.return_, 1) := by decide +kernel
theorem dX12_in_0 : decode cX12_in 0 = .ok (.iload_n 0, 1) := by decide +kernel
theorem dX12_in_1 : decode cX12_in 1 = .ok (.iload_n 1, 1) := by decide +kernel
theorem dX12_in_2 : decode cX12_in 2 = .ok (.if_icmp .lt 12, 3) := by decide +kernel
theorem dX12_in_5 : decode cX12_in 5 = .ok (.iload_n 0, 1) := by decide +kernel
theorem dX12_in_6 : decode cX12_in 6 = .ok (.iload_n 2, 1) := by decide +kernel
theorem dX12_in_7 : decode cX12_in 7 = .ok (.if_icmp .gt 7, 3) := by decide +kernel
theorem dX12_in_10 : decode cX12_in 10 = .ok (.iconst 1, 1) := by decide +kernel
theorem dX12_in_11 : decode cX12_in 11 = .ok (.goto 4, 3) := by decide +kernel
theorem dX12_in_14 : decode cX12_in 14 = .ok (.iconst 0, 1) := by decide +kernel
theorem dX12_in_15 : decode cX12_in 15 = .ok (.ireturn, 1) := by decide +kernel
theorem dX12_isSort_0 : decode cX12_isSort 0 = .ok (.iload_n 0, 1) := by decide +kernel
theorem dX12_isSort_1 : decode cX12_isSort 1 = .ok (.iconst 0, 1) := by decide +kernel
theorem dX12_isSort_2 : decode cX12_isSort 2 = .ok (.iconst 2, 1) := by decide +kernel
theorem dX12_isSort_3 : decode cX12_isSort 3 = .ok (.invokestatic 69, 3) := by decide +kernel
theorem dX12_isSort_6 : decode cX12_isSort 6 = .ok (.ireturn, 1) := by decide +kernel
theorem dX12_isWork_0 : decode cX12_isWork 0 = .ok (.iload_n 0, 1) := by decide +kernel
theorem dX12_isWork_1 : decode cX12_isWork 1 = .ok (.iconst 0, 1) := by decide +kernel
theorem dX12_isWork_2 : decode cX12_isWork 2 = .ok (.iconst 2, 1) := by decide +kernel
theorem dX12_isWork_3 : decode cX12_isWork 3 = .ok (.invokestatic 69, 3) := by decide +kernel
theorem dX12_isWork_6 : decode cX12_isWork 6 = .ok (.ireturn, 1) := by decide +kernel
theorem dX12_isWorker_0 : decode cX12_isWorker 0 = .ok (.iload_n 1, 1) := by decide +kernel
theorem dX12_isWorker_1 : decode cX12_isWorker 1 = .ok (.iconst 0, 1) := by decide +kernel
theorem dX12_isWorker_2 : decode cX12_isWorker 2 = .ok (.aload_n 0, 1) := by decide +kernel
theorem dX12_isWorker_3 : decode cX12_isWorker 3 = .ok (.getfield 9, 3) := by decide +kernel
theorem dX12_isWorker_6 : decode cX12_isWorker 6 = .ok (.iconst 0, 1) := by decide +kernel
theorem dX12_isWorker_7 : decode cX12_isWorker 7 = .ok (.iaload, 1) := by decide +kernel
theorem dX12_isWorker_8 : decode cX12_isWorker 8 = .ok (.iconst 1, 1) := by decide +kernel
theorem dX12_isWorker_9 : decode cX12_isWorker 9 = .ok (.isub, 1) := by decide +kernel
theorem dX12_isWorker_10 : decode cX12_isWorker 10 = .ok (.invokestatic 69, 3) := by decide +kernel
theorem dX12_isWorker_13 : decode cX12_isWorker 13 = .ok (.ireturn, 1) := by decide +kernel
theorem dX12_rest_0 : decode cX12_rest 0 = .ok (.aload_n 0, 1) := by decide +kernel
theorem dX12_rest_1 : decode cX12_rest 1 = .ok (.getfield 9, 3) := by decide +kernel
theorem dX12_rest_4 : decode cX12_rest 4 = .ok (.bipush 6, 2) := by decide +kernel
theorem dX12_rest_6 : decode cX12_rest 6 = .ok (.iaload, 1) := by decide +kernel
theorem dX12_rest_7 : decode cX12_rest 7 = .ok (.aload_n 0, 1) := by decide +kernel
theorem dX12_rest_8 : decode cX12_rest 8 = .ok (.getfield 9, 3) := by decide +kernel
theorem dX12_rest_11 : decode cX12_rest 11 = .ok (.bipush 7, 2) := by decide +kernel
theorem dX12_rest_13 : decode cX12_rest 13 = .ok (.iaload, 1) := by decide +kernel
theorem dX12_rest_14 : decode cX12_rest 14 = .ok (.iadd, 1) := by decide +kernel
theorem dX12_rest_15 : decode cX12_rest 15 = .ok (.aload_n 0, 1) := by decide +kernel
theorem dX12_rest_16 : decode cX12_rest 16 = .ok (.getfield 9, 3) := by decide +kernel
theorem dX12_rest_19 : decode cX12_rest 19 = .ok (.bipush 8, 2) := by decide +kernel
theorem dX12_rest_21 : decode cX12_rest 21 = .ok (.iaload, 1) := by decide +kernel
theorem dX12_rest_22 : decode cX12_rest 22 = .ok (.iadd, 1) := by decide +kernel
theorem dX12_rest_23 : decode cX12_rest 23 = .ok (.ireturn, 1) := by decide +kernel
theorem dX12_bag_0 : decode cX12_bag 0 = .ok (.iload_n 1, 1) := by decide +kernel
theorem dX12_bag_1 : decode cX12_bag 1 = .ok (.invokestatic 73, 3) := by decide +kernel
theorem dX12_bag_4 : decode cX12_bag 4 = .ok (.ifCond .ne 5, 3) := by decide +kernel
theorem dX12_bag_7 : decode cX12_bag 7 = .ok (.iconst (-1), 1) := by decide +kernel
theorem dX12_bag_8 : decode cX12_bag 8 = .ok (.ireturn, 1) := by decide +kernel
theorem dX12_bag_9 : decode cX12_bag 9 = .ok (.iload_n 2, 1) := by decide +kernel
theorem dX12_bag_10 : decode cX12_bag 10 = .ok (.iconst 0, 1) := by decide +kernel
theorem dX12_bag_11 : decode cX12_bag 11 = .ok (.iconst 5, 1) := by decide +kernel
theorem dX12_bag_12 : decode cX12_bag 12 = .ok (.invokestatic 69, 3) := by decide +kernel
theorem dX12_bag_15 : decode cX12_bag 15 = .ok (.ifCond .ne 6, 3) := by decide +kernel
theorem dX12_bag_18 : decode cX12_bag 18 = .ok (.bipush (-2), 2) := by decide +kernel
theorem dX12_bag_20 : decode cX12_bag 20 = .ok (.ireturn, 1) := by decide +kernel
theorem dX12_bag_21 : decode cX12_bag 21 = .ok (.aload_n 0, 1) := by decide +kernel
theorem dX12_bag_22 : decode cX12_bag 22 = .ok (.getfield 9, 3) := by decide +kernel
theorem dX12_bag_25 : decode cX12_bag 25 = .ok (.bipush 6, 2) := by decide +kernel
theorem dX12_bag_27 : decode cX12_bag 27 = .ok (.iload_n 1, 1) := by decide +kernel
theorem dX12_bag_28 : decode cX12_bag 28 = .ok (.iadd, 1) := by decide +kernel
theorem dX12_bag_29 : decode cX12_bag 29 = .ok (.iaload, 1) := by decide +kernel
theorem dX12_bag_30 : decode cX12_bag 30 = .ok (.istore_n 3, 1) := by decide +kernel
theorem dX12_bag_31 : decode cX12_bag 31 = .ok (.aload_n 0, 1) := by decide +kernel
theorem dX12_bag_32 : decode cX12_bag 32 = .ok (.getfield 9, 3) := by decide +kernel
theorem dX12_bag_35 : decode cX12_bag 35 = .ok (.bipush 6, 2) := by decide +kernel
theorem dX12_bag_37 : decode cX12_bag 37 = .ok (.iload_n 1, 1) := by decide +kernel
theorem dX12_bag_38 : decode cX12_bag 38 = .ok (.iadd, 1) := by decide +kernel
theorem dX12_bag_39 : decode cX12_bag 39 = .ok (.iload_n 2, 1) := by decide +kernel
theorem dX12_bag_40 : decode cX12_bag 40 = .ok (.iastore, 1) := by decide +kernel
theorem dX12_bag_41 : decode cX12_bag 41 = .ok (.iload_n 3, 1) := by decide +kernel
theorem dX12_bag_42 : decode cX12_bag 42 = .ok (.ireturn, 1) := by decide +kernel
theorem dX12_feed_0 : decode cX12_feed 0 = .ok (.iload_n 1, 1) := by decide +kernel
theorem dX12_feed_1 : decode cX12_feed 1 = .ok (.iconst 0, 1) := by decide +kernel
theorem dX12_feed_2 : decode cX12_feed 2 = .ok (.bipush 127, 2) := by decide +kernel
theorem dX12_feed_4 : decode cX12_feed 4 = .ok (.invokestatic 69, 3) := by decide +kernel
theorem dX12_feed_7 : decode cX12_feed 7 = .ok (.ifCond .ne 6, 3) := by decide +kernel
theorem dX12_feed_10 : decode cX12_feed 10 = .ok (.bipush (-2), 2) := by decide +kernel
theorem dX12_feed_12 : decode cX12_feed 12 = .ok (.ireturn, 1) := by decide +kernel
theorem dX12_feed_13 : decode cX12_feed 13 = .ok (.aload_n 0, 1) := by decide +kernel
theorem dX12_feed_14 : decode cX12_feed 14 = .ok (.getfield 9, 3) := by decide +kernel
theorem dX12_feed_17 : decode cX12_feed 17 = .ok (.iconst 3, 1) := by decide +kernel
theorem dX12_feed_18 : decode cX12_feed 18 = .ok (.iaload, 1) := by decide +kernel
theorem dX12_feed_19 : decode cX12_feed 19 = .ok (.bipush 100, 2) := by decide +kernel
theorem dX12_feed_21 : decode cX12_feed 21 = .ok (.if_icmp .ne 6, 3) := by decide +kernel
theorem dX12_feed_24 : decode cX12_feed 24 = .ok (.bipush (-4), 2) := by decide +kernel
theorem dX12_feed_26 : decode cX12_feed 26 = .ok (.ireturn, 1) := by decide +kernel
theorem dX12_feed_27 : decode cX12_feed 27 = .ok (.aload_n 0, 1) := by decide +kernel
theorem dX12_feed_28 : decode cX12_feed 28 = .ok (.getfield 9, 3) := by decide +kernel
theorem dX12_feed_31 : decode cX12_feed 31 = .ok (.bipush 12, 2) := by decide +kernel
theorem dX12_feed_33 : decode cX12_feed 33 = .ok (.aload_n 0, 1) := by decide +kernel
theorem dX12_feed_34 : decode cX12_feed 34 = .ok (.getfield 9, 3) := by decide +kernel
theorem dX12_feed_37 : decode cX12_feed 37 = .ok (.iconst 3, 1) := by decide +kernel
theorem dX12_feed_38 : decode cX12_feed 38 = .ok (.iaload, 1) := by decide +kernel
theorem dX12_feed_39 : decode cX12_feed 39 = .ok (.iadd, 1) := by decide +kernel
theorem dX12_feed_40 : decode cX12_feed 40 = .ok (.iload_n 1, 1) := by decide +kernel
theorem dX12_feed_41 : decode cX12_feed 41 = .ok (.iastore, 1) := by decide +kernel
theorem dX12_feed_42 : decode cX12_feed 42 = .ok (.aload_n 0, 1) := by decide +kernel
theorem dX12_feed_43 : decode cX12_feed 43 = .ok (.getfield 9, 3) := by decide +kernel
theorem dX12_feed_46 : decode cX12_feed 46 = .ok (.iconst 3, 1) := by decide +kernel
theorem dX12_feed_47 : decode cX12_feed 47 = .ok (.dup2, 1) := by decide +kernel
theorem dX12_feed_48 : decode cX12_feed 48 = .ok (.iaload, 1) := by decide +kernel
theorem dX12_feed_49 : decode cX12_feed 49 = .ok (.iconst 1, 1) := by decide +kernel
theorem dX12_feed_50 : decode cX12_feed 50 = .ok (.iadd, 1) := by decide +kernel
theorem dX12_feed_51 : decode cX12_feed 51 = .ok (.iastore, 1) := by decide +kernel
theorem dX12_feed_52 : decode cX12_feed 52 = .ok (.aload_n 0, 1) := by decide +kernel
theorem dX12_feed_53 : decode cX12_feed 53 = .ok (.getfield 9, 3) := by decide +kernel
theorem dX12_feed_56 : decode cX12_feed 56 = .ok (.iconst 3, 1) := by decide +kernel
theorem dX12_feed_57 : decode cX12_feed 57 = .ok (.iaload, 1) := by decide +kernel
theorem dX12_feed_58 : decode cX12_feed 58 = .ok (.ireturn, 1) := by decide +kernel
theorem dX12_here_0 : decode cX12_here 0 = .ok (.aload_n 0, 1) := by decide +kernel
theorem dX12_here_1 : decode cX12_here 1 = .ok (.getfield 77, 3) := by decide +kernel
theorem dX12_here_4 : decode cX12_here 4 = .ok (.aload_n 0, 1) := by decide +kernel
theorem dX12_here_5 : decode cX12_here 5 = .ok (.getfield 80, 3) := by decide +kernel
theorem dX12_here_8 : decode cX12_here 8 = .ok (.if_icmp .ge 18, 3) := by decide +kernel
theorem dX12_here_11 : decode cX12_here 11 = .ok (.aload_n 0, 1) := by decide +kernel
theorem dX12_here_12 : decode cX12_here 12 = .ok (.getfield 9, 3) := by decide +kernel
theorem dX12_here_15 : decode cX12_here 15 = .ok (.bipush 12, 2) := by decide +kernel
theorem dX12_here_17 : decode cX12_here 17 = .ok (.aload_n 0, 1) := by decide +kernel
theorem dX12_here_18 : decode cX12_here 18 = .ok (.getfield 77, 3) := by decide +kernel
theorem dX12_here_21 : decode cX12_here 21 = .ok (.iadd, 1) := by decide +kernel
theorem dX12_here_22 : decode cX12_here 22 = .ok (.iaload, 1) := by decide +kernel
theorem dX12_here_23 : decode cX12_here 23 = .ok (.goto 4, 3) := by decide +kernel
theorem dX12_here_26 : decode cX12_here 26 = .ok (.iconst (-1), 1) := by decide +kernel
theorem dX12_here_27 : decode cX12_here 27 = .ok (.ireturn, 1) := by decide +kernel
theorem dX12_must_0 : decode cX12_must 0 = .ok (.aload_n 0, 1) := by decide +kernel
theorem dX12_must_1 : decode cX12_must 1 = .ok (.aload_n 0, 1) := by decide +kernel
theorem dX12_must_2 : decode cX12_must 2 = .ok (.getfield 83, 3) := by decide +kernel
theorem dX12_must_5 : decode cX12_must 5 = .ok (.ifCond .ne 11, 3) := by decide +kernel
theorem dX12_must_8 : decode cX12_must 8 = .ok (.aload_n 0, 1) := by decide +kernel
theorem dX12_must_9 : decode cX12_must 9 = .ok (.invokevirtual 87, 3) := by decide +kernel
theorem dX12_must_12 : decode cX12_must 12 = .ok (.iload_n 1, 1) := by decide +kernel
theorem dX12_must_13 : decode cX12_must 13 = .ok (.if_icmp .eq 7, 3) := by decide +kernel
theorem dX12_must_16 : decode cX12_must 16 = .ok (.iconst 1, 1) := by decide +kernel
theorem dX12_must_17 : decode cX12_must 17 = .ok (.goto 4, 3) := by decide +kernel
theorem dX12_must_20 : decode cX12_must 20 = .ok (.iconst 0, 1) := by decide +kernel
theorem dX12_must_21 : decode cX12_must 21 = .ok (.putfield 83, 3) := by decide +kernel
theorem dX12_must_24 : decode cX12_must 24 = .ok (.aload_n 0, 1) := by decide +kernel
theorem dX12_must_25 : decode cX12_must 25 = .ok (.dup, 1) := by decide +kernel
theorem dX12_must_26 : decode cX12_must 26 = .ok (.getfield 77, 3) := by decide +kernel
theorem dX12_must_29 : decode cX12_must 29 = .ok (.aload_n 0, 1) := by decide +kernel
theorem dX12_must_30 : decode cX12_must 30 = .ok (.getfield 83, 3) := by decide +kernel
theorem dX12_must_33 : decode cX12_must 33 = .ok (.ifCond .eq 7, 3) := by decide +kernel
theorem dX12_must_36 : decode cX12_must 36 = .ok (.iconst 0, 1) := by decide +kernel
theorem dX12_must_37 : decode cX12_must 37 = .ok (.goto 4, 3) := by decide +kernel
theorem dX12_must_40 : decode cX12_must 40 = .ok (.iconst 1, 1) := by decide +kernel
theorem dX12_must_41 : decode cX12_must 41 = .ok (.iadd, 1) := by decide +kernel
theorem dX12_must_42 : decode cX12_must 42 = .ok (.putfield 77, 3) := by decide +kernel
theorem dX12_must_45 : decode cX12_must 45 = .ok (.return_, 1) := by decide +kernel
theorem dX12_spells_0 : decode cX12_spells 0 = .ok (.iconst 0, 1) := by decide +kernel
theorem dX12_spells_1 : decode cX12_spells 1 = .ok (.istore_n 2, 1) := by decide +kernel
theorem dX12_spells_2 : decode cX12_spells 2 = .ok (.iload_n 2, 1) := by decide +kernel
theorem dX12_spells_3 : decode cX12_spells 3 = .ok (.aload_n 1, 1) := by decide +kernel
theorem dX12_spells_4 : decode cX12_spells 4 = .ok (.invokevirtual 91, 3) := by decide +kernel
theorem dX12_spells_7 : decode cX12_spells 7 = .ok (.if_icmp .ge 18, 3) := by decide +kernel
theorem dX12_spells_10 : decode cX12_spells 10 = .ok (.aload_n 0, 1) := by decide +kernel
theorem dX12_spells_11 : decode cX12_spells 11 = .ok (.aload_n 1, 1) := by decide +kernel
theorem dX12_spells_12 : decode cX12_spells 12 = .ok (.iload_n 2, 1) := by decide +kernel
theorem dX12_spells_13 : decode cX12_spells 13 = .ok (.invokevirtual 96, 3) := by decide +kernel
theorem dX12_spells_16 : decode cX12_spells 16 = .ok (.invokevirtual 100, 3) := by decide +kernel
theorem dX12_spells_19 : decode cX12_spells 19 = .ok (.iinc 2 1, 3) := by decide +kernel
theorem dX12_spells_22 : decode cX12_spells 22 = .ok (.goto (-20), 3) := by decide +kernel
theorem dX12_spells_25 : decode cX12_spells 25 = .ok (.return_, 1) := by decide +kernel
theorem dX12_figures_0 : decode cX12_figures 0 = .ok (.aload_n 0, 1) := by decide +kernel
theorem dX12_figures_1 : decode cX12_figures 1 = .ok (.aload_n 0, 1) := by decide +kernel
theorem dX12_figures_2 : decode cX12_figures 2 = .ok (.getfield 83, 3) := by decide +kernel
theorem dX12_figures_5 : decode cX12_figures 5 = .ok (.ifCond .ne 17, 3) := by decide +kernel
theorem dX12_figures_8 : decode cX12_figures 8 = .ok (.aload_n 0, 1) := by decide +kernel
theorem dX12_figures_9 : decode cX12_figures 9 = .ok (.invokevirtual 87, 3) := by decide +kernel
theorem dX12_figures_12 : decode cX12_figures 12 = .ok (.bipush 48, 2) := by decide +kernel
theorem dX12_figures_14 : decode cX12_figures 14 = .ok (.bipush 57, 2) := by decide +kernel
theorem dX12_figures_16 : decode cX12_figures 16 = .ok (.invokestatic 69, 3) := by decide +kernel
theorem dX12_figures_19 : decode cX12_figures 19 = .ok (.ifCond .ne 7, 3) := by decide +kernel
theorem dX12_figures_22 : decode cX12_figures 22 = .ok (.iconst 1, 1) := by decide +kernel
theorem dX12_figures_23 : decode cX12_figures 23 = .ok (.goto 4, 3) := by decide +kernel
theorem dX12_figures_26 : decode cX12_figures 26 = .ok (.iconst 0, 1) := by decide +kernel
theorem dX12_figures_27 : decode cX12_figures 27 = .ok (.putfield 83, 3) := by decide +kernel
theorem dX12_figures_30 : decode cX12_figures 30 = .ok (.iconst 0, 1) := by decide +kernel
theorem dX12_figures_31 : decode cX12_figures 31 = .ok (.istore_n 1, 1) := by decide +kernel
theorem dX12_figures_32 : decode cX12_figures 32 = .ok (.iconst 0, 1) := by decide +kernel
theorem dX12_figures_33 : decode cX12_figures 33 = .ok (.istore_n 2, 1) := by decide +kernel
theorem dX12_figures_34 : decode cX12_figures 34 = .ok (.iload_n 2, 1) := by decide +kernel
theorem dX12_figures_35 : decode cX12_figures 35 = .ok (.iconst 2, 1) := by decide +kernel
theorem dX12_figures_36 : decode cX12_figures 36 = .ok (.if_icmp .ge 61, 3) := by decide +kernel
theorem dX12_figures_39 : decode cX12_figures 39 = .ok (.aload_n 0, 1) := by decide +kernel
theorem dX12_figures_40 : decode cX12_figures 40 = .ok (.getfield 83, 3) := by decide +kernel
theorem dX12_figures_43 : decode cX12_figures 43 = .ok (.ifCond .ne 54, 3) := by decide +kernel
theorem dX12_figures_46 : decode cX12_figures 46 = .ok (.aload_n 0, 1) := by decide +kernel
theorem dX12_figures_47 : decode cX12_figures 47 = .ok (.invokevirtual 87, 3) := by decide +kernel
theorem dX12_figures_50 : decode cX12_figures 50 = .ok (.bipush 48, 2) := by decide +kernel
theorem dX12_figures_52 : decode cX12_figures 52 = .ok (.bipush 57, 2) := by decide +kernel
theorem dX12_figures_54 : decode cX12_figures 54 = .ok (.invokestatic 69, 3) := by decide +kernel
theorem dX12_figures_57 : decode cX12_figures 57 = .ok (.ifCond .eq 40, 3) := by decide +kernel
theorem dX12_figures_60 : decode cX12_figures 60 = .ok (.iload_n 2, 1) := by decide +kernel
theorem dX12_figures_61 : decode cX12_figures 61 = .ok (.ifCond .eq 7, 3) := by decide +kernel
theorem dX12_figures_64 : decode cX12_figures 64 = .ok (.iload_n 1, 1) := by decide +kernel
theorem dX12_figures_65 : decode cX12_figures 65 = .ok (.ifCond .le 32, 3) := by decide +kernel
theorem dX12_figures_68 : decode cX12_figures 68 = .ok (.bipush 10, 2) := by decide +kernel
theorem dX12_figures_70 : decode cX12_figures 70 = .ok (.iload_n 1, 1) := by decide +kernel
theorem dX12_figures_71 : decode cX12_figures 71 = .ok (.imul, 1) := by decide +kernel
theorem dX12_figures_72 : decode cX12_figures 72 = .ok (.aload_n 0, 1) := by decide +kernel
theorem dX12_figures_73 : decode cX12_figures 73 = .ok (.invokevirtual 87, 3) := by decide +kernel
theorem dX12_figures_76 : decode cX12_figures 76 = .ok (.iadd, 1) := by decide +kernel
theorem dX12_figures_77 : decode cX12_figures 77 = .ok (.bipush 48, 2) := by decide +kernel
theorem dX12_figures_79 : decode cX12_figures 79 = .ok (.isub, 1) := by decide +kernel
theorem dX12_figures_80 : decode cX12_figures 80 = .ok (.istore_n 1, 1) := by decide +kernel
theorem dX12_figures_81 : decode cX12_figures 81 = .ok (.aload_n 0, 1) := by decide +kernel
theorem dX12_figures_82 : decode cX12_figures 82 = .ok (.dup, 1) := by decide +kernel
theorem dX12_figures_83 : decode cX12_figures 83 = .ok (.getfield 77, 3) := by decide +kernel
theorem dX12_figures_86 : decode cX12_figures 86 = .ok (.iconst 1, 1) := by decide +kernel
theorem dX12_figures_87 : decode cX12_figures 87 = .ok (.iadd, 1) := by decide +kernel
theorem dX12_figures_88 : decode cX12_figures 88 = .ok (.putfield 77, 3) := by decide +kernel
theorem dX12_figures_91 : decode cX12_figures 91 = .ok (.iinc 2 1, 3) := by decide +kernel
theorem dX12_figures_94 : decode cX12_figures 94 = .ok (.goto (-60), 3) := by decide +kernel
theorem dX12_figures_97 : decode cX12_figures 97 = .ok (.iload_n 1, 1) := by decide +kernel
theorem dX12_figures_98 : decode cX12_figures 98 = .ok (.ireturn, 1) := by decide +kernel
theorem dX12_workHere_0 : decode cX12_workHere 0 = .ok (.aload_n 0, 1) := by decide +kernel
theorem dX12_workHere_1 : decode cX12_workHere 1 = .ok (.aload_n 0, 1) := by decide +kernel
theorem dX12_workHere_2 : decode cX12_workHere 2 = .ok (.getfield 83, 3) := by decide +kernel
theorem dX12_workHere_5 : decode cX12_workHere 5 = .ok (.ifCond .ne 17, 3) := by decide +kernel
theorem dX12_workHere_8 : decode cX12_workHere 8 = .ok (.aload_n 0, 1) := by decide +kernel
theorem dX12_workHere_9 : decode cX12_workHere 9 = .ok (.invokevirtual 87, 3) := by decide +kernel
theorem dX12_workHere_12 : decode cX12_workHere 12 = .ok (.bipush 48, 2) := by decide +kernel
theorem dX12_workHere_14 : decode cX12_workHere 14 = .ok (.bipush 50, 2) := by decide +kernel
theorem dX12_workHere_16 : decode cX12_workHere 16 = .ok (.invokestatic 69, 3) := by decide +kernel
theorem dX12_workHere_19 : decode cX12_workHere 19 = .ok (.ifCond .ne 7, 3) := by decide +kernel
theorem dX12_workHere_22 : decode cX12_workHere 22 = .ok (.iconst 1, 1) := by decide +kernel
theorem dX12_workHere_23 : decode cX12_workHere 23 = .ok (.goto 4, 3) := by decide +kernel
theorem dX12_workHere_26 : decode cX12_workHere 26 = .ok (.iconst 0, 1) := by decide +kernel
theorem dX12_workHere_27 : decode cX12_workHere 27 = .ok (.putfield 83, 3) := by decide +kernel
theorem dX12_workHere_30 : decode cX12_workHere 30 = .ok (.aload_n 0, 1) := by decide +kernel
theorem dX12_workHere_31 : decode cX12_workHere 31 = .ok (.getfield 83, 3) := by decide +kernel
theorem dX12_workHere_34 : decode cX12_workHere 34 = .ok (.ifCond .eq 7, 3) := by decide +kernel
theorem dX12_workHere_37 : decode cX12_workHere 37 = .ok (.iconst 0, 1) := by decide +kernel
theorem dX12_workHere_38 : decode cX12_workHere 38 = .ok (.goto 10, 3) := by decide +kernel
theorem dX12_workHere_41 : decode cX12_workHere 41 = .ok (.aload_n 0, 1) := by decide +kernel
theorem dX12_workHere_42 : decode cX12_workHere 42 = .ok (.invokevirtual 87, 3) := by decide +kernel
theorem dX12_workHere_45 : decode cX12_workHere 45 = .ok (.bipush 48, 2) := by decide +kernel
theorem dX12_workHere_47 : decode cX12_workHere 47 = .ok (.isub, 1) := by decide +kernel
theorem dX12_workHere_48 : decode cX12_workHere 48 = .ok (.istore_n 1, 1) := by decide +kernel
theorem dX12_workHere_49 : decode cX12_workHere 49 = .ok (.aload_n 0, 1) := by decide +kernel
theorem dX12_workHere_50 : decode cX12_workHere 50 = .ok (.bipush 48, 2) := by decide +kernel
theorem dX12_workHere_52 : decode cX12_workHere 52 = .ok (.iload_n 1, 1) := by decide +kernel
theorem dX12_workHere_53 : decode cX12_workHere 53 = .ok (.iadd, 1) := by decide +kernel
theorem dX12_workHere_54 : decode cX12_workHere 54 = .ok (.invokevirtual 100, 3) := by decide +kernel
theorem dX12_workHere_57 : decode cX12_workHere 57 = .ok (.aload_n 0, 1) := by decide +kernel
theorem dX12_workHere_58 : decode cX12_workHere 58 = .ok (.bipush 32, 2) := by decide +kernel
theorem dX12_workHere_60 : decode cX12_workHere 60 = .ok (.invokevirtual 100, 3) := by decide +kernel
theorem dX12_workHere_63 : decode cX12_workHere 63 = .ok (.iload_n 1, 1) := by decide +kernel
theorem dX12_workHere_64 : decode cX12_workHere 64 = .ok (.ireturn, 1) := by decide +kernel
theorem dX12_among_0 : decode cX12_among 0 = .ok (.iconst 0, 1) := by decide +kernel
theorem dX12_among_1 : decode cX12_among 1 = .ok (.istore_n 2, 1) := by decide +kernel
theorem dX12_among_2 : decode cX12_among 2 = .ok (.iload_n 2, 1) := by decide +kernel
theorem dX12_among_3 : decode cX12_among 3 = .ok (.aload_n 1, 1) := by decide +kernel
theorem dX12_among_4 : decode cX12_among 4 = .ok (.invokevirtual 91, 3) := by decide +kernel
theorem dX12_among_7 : decode cX12_among 7 = .ok (.if_icmp .ge 33, 3) := by decide +kernel
theorem dX12_among_10 : decode cX12_among 10 = .ok (.aload_n 0, 1) := by decide +kernel
theorem dX12_among_11 : decode cX12_among 11 = .ok (.invokevirtual 87, 3) := by decide +kernel
theorem dX12_among_14 : decode cX12_among 14 = .ok (.aload_n 1, 1) := by decide +kernel
theorem dX12_among_15 : decode cX12_among 15 = .ok (.iload_n 2, 1) := by decide +kernel
theorem dX12_among_16 : decode cX12_among 16 = .ok (.invokevirtual 96, 3) := by decide +kernel
theorem dX12_among_19 : decode cX12_among 19 = .ok (.if_icmp .ne 15, 3) := by decide +kernel
theorem dX12_among_22 : decode cX12_among 22 = .ok (.aload_n 0, 1) := by decide +kernel
theorem dX12_among_23 : decode cX12_among 23 = .ok (.dup, 1) := by decide +kernel
theorem dX12_among_24 : decode cX12_among 24 = .ok (.getfield 77, 3) := by decide +kernel
theorem dX12_among_27 : decode cX12_among 27 = .ok (.iconst 1, 1) := by decide +kernel
theorem dX12_among_28 : decode cX12_among 28 = .ok (.iadd, 1) := by decide +kernel
theorem dX12_among_29 : decode cX12_among 29 = .ok (.putfield 77, 3) := by decide +kernel
theorem dX12_among_32 : decode cX12_among 32 = .ok (.iload_n 2, 1) := by decide +kernel
theorem dX12_among_33 : decode cX12_among 33 = .ok (.ireturn, 1) := by decide +kernel
theorem dX12_among_34 : decode cX12_among 34 = .ok (.iinc 2 1, 3) := by decide +kernel
theorem dX12_among_37 : decode cX12_among 37 = .ok (.goto (-35), 3) := by decide +kernel
theorem dX12_among_40 : decode cX12_among 40 = .ok (.iconst (-1), 1) := by decide +kernel
theorem dX12_among_41 : decode cX12_among 41 = .ok (.ireturn, 1) := by decide +kernel
theorem dX12_emits_0 : decode cX12_emits 0 = .ok (.aload_n 0, 1) := by decide +kernel
theorem dX12_emits_1 : decode cX12_emits 1 = .ok (.getfield 83, 3) := by decide +kernel
theorem dX12_emits_4 : decode cX12_emits 4 = .ok (.ifCond .ne 52, 3) := by decide +kernel
theorem dX12_emits_7 : decode cX12_emits 7 = .ok (.aload_n 0, 1) := by decide +kernel
theorem dX12_emits_8 : decode cX12_emits 8 = .ok (.getfield 9, 3) := by decide +kernel
theorem dX12_emits_11 : decode cX12_emits 11 = .ok (.sipush 192, 3) := by decide +kernel
theorem dX12_emits_14 : decode cX12_emits 14 = .ok (.sipush 140, 3) := by decide +kernel
theorem dX12_emits_17 : decode cX12_emits 17 = .ok (.aload_n 0, 1) := by decide +kernel
theorem dX12_emits_18 : decode cX12_emits 18 = .ok (.getfield 104, 3) := by decide +kernel
theorem dX12_emits_21 : decode cX12_emits 21 = .ok (.imul, 1) := by decide +kernel
theorem dX12_emits_22 : decode cX12_emits 22 = .ok (.iadd, 1) := by decide +kernel
theorem dX12_emits_23 : decode cX12_emits 23 = .ok (.aload_n 0, 1) := by decide +kernel
theorem dX12_emits_24 : decode cX12_emits 24 = .ok (.getfield 9, 3) := by decide +kernel
theorem dX12_emits_27 : decode cX12_emits 27 = .ok (.sipush 187, 3) := by decide +kernel
theorem dX12_emits_30 : decode cX12_emits 30 = .ok (.aload_n 0, 1) := by decide +kernel
theorem dX12_emits_31 : decode cX12_emits 31 = .ok (.getfield 104, 3) := by decide +kernel
theorem dX12_emits_34 : decode cX12_emits 34 = .ok (.iadd, 1) := by decide +kernel
theorem dX12_emits_35 : decode cX12_emits 35 = .ok (.iaload, 1) := by decide +kernel
theorem dX12_emits_36 : decode cX12_emits 36 = .ok (.iadd, 1) := by decide +kernel
theorem dX12_emits_37 : decode cX12_emits 37 = .ok (.iload_n 1, 1) := by decide +kernel
theorem dX12_emits_38 : decode cX12_emits 38 = .ok (.iastore, 1) := by decide +kernel
theorem dX12_emits_39 : decode cX12_emits 39 = .ok (.aload_n 0, 1) := by decide +kernel
theorem dX12_emits_40 : decode cX12_emits 40 = .ok (.getfield 9, 3) := by decide +kernel
theorem dX12_emits_43 : decode cX12_emits 43 = .ok (.sipush 187, 3) := by decide +kernel
theorem dX12_emits_46 : decode cX12_emits 46 = .ok (.aload_n 0, 1) := by decide +kernel
theorem dX12_emits_47 : decode cX12_emits 47 = .ok (.getfield 104, 3) := by decide +kernel
theorem dX12_emits_50 : decode cX12_emits 50 = .ok (.iadd, 1) := by decide +kernel
theorem dX12_emits_51 : decode cX12_emits 51 = .ok (.dup2, 1) := by decide +kernel
theorem dX12_emits_52 : decode cX12_emits 52 = .ok (.iaload, 1) := by decide +kernel
theorem dX12_emits_53 : decode cX12_emits 53 = .ok (.iconst 1, 1) := by decide +kernel
theorem dX12_emits_54 : decode cX12_emits 54 = .ok (.iadd, 1) := by decide +kernel
theorem dX12_emits_55 : decode cX12_emits 55 = .ok (.iastore, 1) := by decide +kernel
theorem dX12_emits_56 : decode cX12_emits 56 = .ok (.return_, 1) := by decide +kernel
theorem dX12_factor_0 : decode cX12_factor 0 = .ok (.aload_n 0, 1) := by decide +kernel
theorem dX12_factor_1 : decode cX12_factor 1 = .ok (.getfield 83, 3) := by decide +kernel
theorem dX12_factor_4 : decode cX12_factor 4 = .ok (.ifCond .eq 4, 3) := by decide +kernel
theorem dX12_factor_7 : decode cX12_factor 7 = .ok (.return_, 1) := by decide +kernel
theorem dX12_factor_8 : decode cX12_factor 8 = .ok (.aload_n 0, 1) := by decide +kernel
theorem dX12_factor_9 : decode cX12_factor 9 = .ok (.invokevirtual 87, 3) := by decide +kernel
theorem dX12_factor_12 : decode cX12_factor 12 = .ok (.istore_n 1, 1) := by decide +kernel
theorem dX12_factor_13 : decode cX12_factor 13 = .ok (.iload_n 1, 1) := by decide +kernel
theorem dX12_factor_14 : decode cX12_factor 14 = .ok (.bipush 33, 2) := by decide +kernel
theorem dX12_factor_16 : decode cX12_factor 16 = .ok (.if_icmp .eq 9, 3) := by decide +kernel
theorem dX12_factor_19 : decode cX12_factor 19 = .ok (.iload_n 1, 1) := by decide +kernel
theorem dX12_factor_20 : decode cX12_factor 20 = .ok (.bipush 40, 2) := by decide +kernel
theorem dX12_factor_22 : decode cX12_factor 22 = .ok (.if_icmp .ne 90, 3) := by decide +kernel
theorem dX12_factor_25 : decode cX12_factor 25 = .ok (.aload_n 0, 1) := by decide +kernel
theorem dX12_factor_26 : decode cX12_factor 26 = .ok (.aload_n 0, 1) := by decide +kernel
theorem dX12_factor_27 : decode cX12_factor 27 = .ok (.getfield 107, 3) := by decide +kernel
theorem dX12_factor_30 : decode cX12_factor 30 = .ok (.iconst 5, 1) := by decide +kernel
theorem dX12_factor_31 : decode cX12_factor 31 = .ok (.if_icmp .ne 7, 3) := by decide +kernel
theorem dX12_factor_34 : decode cX12_factor 34 = .ok (.iconst 1, 1) := by decide +kernel
theorem dX12_factor_35 : decode cX12_factor 35 = .ok (.goto 4, 3) := by decide +kernel
theorem dX12_factor_38 : decode cX12_factor 38 = .ok (.iconst 0, 1) := by decide +kernel
theorem dX12_factor_39 : decode cX12_factor 39 = .ok (.putfield 83, 3) := by decide +kernel
theorem dX12_factor_42 : decode cX12_factor 42 = .ok (.aload_n 0, 1) := by decide +kernel
theorem dX12_factor_43 : decode cX12_factor 43 = .ok (.dup, 1) := by decide +kernel
theorem dX12_factor_44 : decode cX12_factor 44 = .ok (.getfield 107, 3) := by decide +kernel
theorem dX12_factor_47 : decode cX12_factor 47 = .ok (.iconst 1, 1) := by decide +kernel
theorem dX12_factor_48 : decode cX12_factor 48 = .ok (.iadd, 1) := by decide +kernel
theorem dX12_factor_49 : decode cX12_factor 49 = .ok (.putfield 107, 3) := by decide +kernel
theorem dX12_factor_52 : decode cX12_factor 52 = .ok (.aload_n 0, 1) := by decide +kernel
theorem dX12_factor_53 : decode cX12_factor 53 = .ok (.dup, 1) := by decide +kernel
theorem dX12_factor_54 : decode cX12_factor 54 = .ok (.getfield 77, 3) := by decide +kernel
theorem dX12_factor_57 : decode cX12_factor 57 = .ok (.aload_n 0, 1) := by decide +kernel
theorem dX12_factor_58 : decode cX12_factor 58 = .ok (.getfield 83, 3) := by decide +kernel
theorem dX12_factor_61 : decode cX12_factor 61 = .ok (.ifCond .eq 7, 3) := by decide +kernel
theorem dX12_factor_64 : decode cX12_factor 64 = .ok (.iconst 0, 1) := by decide +kernel
theorem dX12_factor_65 : decode cX12_factor 65 = .ok (.goto 4, 3) := by decide +kernel
theorem dX12_factor_68 : decode cX12_factor 68 = .ok (.iconst 1, 1) := by decide +kernel
theorem dX12_factor_69 : decode cX12_factor 69 = .ok (.iadd, 1) := by decide +kernel
theorem dX12_factor_70 : decode cX12_factor 70 = .ok (.putfield 77, 3) := by decide +kernel
theorem dX12_factor_73 : decode cX12_factor 73 = .ok (.iload_n 1, 1) := by decide +kernel
theorem dX12_factor_74 : decode cX12_factor 74 = .ok (.bipush 33, 2) := by decide +kernel
theorem dX12_factor_76 : decode cX12_factor 76 = .ok (.if_icmp .ne 15, 3) := by decide +kernel
theorem dX12_factor_79 : decode cX12_factor 79 = .ok (.aload_n 0, 1) := by decide +kernel
theorem dX12_factor_80 : decode cX12_factor 80 = .ok (.invokevirtual 110, 3) := by decide +kernel
theorem dX12_factor_83 : decode cX12_factor 83 = .ok (.aload_n 0, 1) := by decide +kernel
theorem dX12_factor_84 : decode cX12_factor 84 = .ok (.iconst (-1), 1) := by decide +kernel
theorem dX12_factor_85 : decode cX12_factor 85 = .ok (.invokevirtual 113, 3) := by decide +kernel
theorem dX12_factor_88 : decode cX12_factor 88 = .ok (.goto 13, 3) := by decide +kernel
theorem dX12_factor_91 : decode cX12_factor 91 = .ok (.aload_n 0, 1) := by decide +kernel
theorem dX12_factor_92 : decode cX12_factor 92 = .ok (.invokevirtual 116, 3) := by decide +kernel
theorem dX12_factor_95 : decode cX12_factor 95 = .ok (.aload_n 0, 1) := by decide +kernel
theorem dX12_factor_96 : decode cX12_factor 96 = .ok (.bipush 41, 2) := by decide +kernel
theorem dX12_factor_98 : decode cX12_factor 98 = .ok (.invokevirtual 100, 3) := by decide +kernel
theorem dX12_factor_101 : decode cX12_factor 101 = .ok (.aload_n 0, 1) := by decide +kernel
theorem dX12_factor_102 : decode cX12_factor 102 = .ok (.dup, 1) := by decide +kernel
theorem dX12_factor_103 : decode cX12_factor 103 = .ok (.getfield 107, 3) := by decide +kernel
theorem dX12_factor_106 : decode cX12_factor 106 = .ok (.iconst 1, 1) := by decide +kernel
theorem dX12_factor_107 : decode cX12_factor 107 = .ok (.isub, 1) := by decide +kernel
theorem dX12_factor_108 : decode cX12_factor 108 = .ok (.putfield 107, 3) := by decide +kernel
theorem dX12_factor_111 : decode cX12_factor 111 = .ok (.return_, 1) := by decide +kernel
theorem dX12_factor_112 : decode cX12_factor 112 = .ok (.aload_n 0, 1) := by decide +kernel
theorem dX12_factor_113 : decode cX12_factor 113 = .ok (.ldc 119, 2) := by decide +kernel
theorem dX12_factor_115 : decode cX12_factor 115 = .ok (.invokevirtual 121, 3) := by decide +kernel
theorem dX12_factor_118 : decode cX12_factor 118 = .ok (.istore_n 2, 1) := by decide +kernel
theorem dX12_factor_119 : decode cX12_factor 119 = .ok (.aload_n 0, 1) := by decide +kernel
theorem dX12_factor_120 : decode cX12_factor 120 = .ok (.iload_n 2, 1) := by decide +kernel
theorem dX12_factor_121 : decode cX12_factor 121 = .ok (.iconst (-1), 1) := by decide +kernel
theorem dX12_factor_122 : decode cX12_factor 122 = .ok (.if_icmp .ne 7, 3) := by decide +kernel
theorem dX12_factor_125 : decode cX12_factor 125 = .ok (.iconst 1, 1) := by decide +kernel
theorem dX12_factor_126 : decode cX12_factor 126 = .ok (.goto 4, 3) := by decide +kernel
theorem dX12_factor_129 : decode cX12_factor 129 = .ok (.iconst 0, 1) := by decide +kernel
theorem dX12_factor_130 : decode cX12_factor 130 = .ok (.putfield 83, 3) := by decide +kernel
theorem dX12_factor_133 : decode cX12_factor 133 = .ok (.aload_n 0, 1) := by decide +kernel
theorem dX12_factor_134 : decode cX12_factor 134 = .ok (.getfield 83, 3) := by decide +kernel
theorem dX12_factor_137 : decode cX12_factor 137 = .ok (.ifCond .eq 7, 3) := by decide +kernel
theorem dX12_factor_140 : decode cX12_factor 140 = .ok (.iconst 0, 1) := by decide +kernel
theorem dX12_factor_141 : decode cX12_factor 141 = .ok (.goto 9, 3) := by decide +kernel
theorem dX12_factor_144 : decode cX12_factor 144 = .ok (.aload_n 0, 1) := by decide +kernel
theorem dX12_factor_145 : decode cX12_factor 145 = .ok (.ldc 125, 2) := by decide +kernel
theorem dX12_factor_147 : decode cX12_factor 147 = .ok (.invokevirtual 121, 3) := by decide +kernel
theorem dX12_factor_150 : decode cX12_factor 150 = .ok (.istore_n 3, 1) := by decide +kernel
theorem dX12_factor_151 : decode cX12_factor 151 = .ok (.aload_n 0, 1) := by decide +kernel
theorem dX12_factor_152 : decode cX12_factor 152 = .ok (.aload_n 0, 1) := by decide +kernel
theorem dX12_factor_153 : decode cX12_factor 153 = .ok (.getfield 83, 3) := by decide +kernel
theorem dX12_factor_156 : decode cX12_factor 156 = .ok (.ifCond .ne 8, 3) := by decide +kernel
theorem dX12_factor_159 : decode cX12_factor 159 = .ok (.iload_n 3, 1) := by decide +kernel
theorem dX12_factor_160 : decode cX12_factor 160 = .ok (.iconst (-1), 1) := by decide +kernel
theorem dX12_factor_161 : decode cX12_factor 161 = .ok (.if_icmp .ne 7, 3) := by decide +kernel
theorem dX12_factor_164 : decode cX12_factor 164 = .ok (.iconst 1, 1) := by decide +kernel
theorem dX12_factor_165 : decode cX12_factor 165 = .ok (.goto 4, 3) := by decide +kernel
theorem dX12_factor_168 : decode cX12_factor 168 = .ok (.iconst 0, 1) := by decide +kernel
theorem dX12_factor_169 : decode cX12_factor 169 = .ok (.putfield 83, 3) := by decide +kernel
theorem dX12_factor_172 : decode cX12_factor 172 = .ok (.aload_n 0, 1) := by decide +kernel
theorem dX12_factor_173 : decode cX12_factor 173 = .ok (.invokevirtual 127, 3) := by decide +kernel
theorem dX12_factor_176 : decode cX12_factor 176 = .ok (.istore 4, 2) := by decide +kernel
theorem dX12_factor_178 : decode cX12_factor 178 = .ok (.aload_n 0, 1) := by decide +kernel
theorem dX12_factor_179 : decode cX12_factor 179 = .ok (.iload_n 2, 1) := by decide +kernel
theorem dX12_factor_180 : decode cX12_factor 180 = .ok (.bipush 8, 2) := by decide +kernel
theorem dX12_factor_182 : decode cX12_factor 182 = .ok (.iload_n 3, 1) := by decide +kernel
theorem dX12_factor_183 : decode cX12_factor 183 = .ok (.imul, 1) := by decide +kernel
theorem dX12_factor_184 : decode cX12_factor 184 = .ok (.iadd, 1) := by decide +kernel
theorem dX12_factor_185 : decode cX12_factor 185 = .ok (.bipush 32, 2) := by decide +kernel
theorem dX12_factor_187 : decode cX12_factor 187 = .ok (.iload 4, 2) := by decide +kernel
theorem dX12_factor_189 : decode cX12_factor 189 = .ok (.imul, 1) := by decide +kernel
theorem dX12_factor_190 : decode cX12_factor 190 = .ok (.iadd, 1) := by decide +kernel
theorem dX12_factor_191 : decode cX12_factor 191 = .ok (.invokevirtual 113, 3) := by decide +kernel
theorem dX12_factor_194 : decode cX12_factor 194 = .ok (.return_, 1) := by decide +kernel
theorem dX12_every_0 : decode cX12_every 0 = .ok (.aload_n 0, 1) := by decide +kernel
theorem dX12_every_1 : decode cX12_every 1 = .ok (.invokevirtual 110, 3) := by decide +kernel
theorem dX12_every_4 : decode cX12_every 4 = .ok (.aload_n 0, 1) := by decide +kernel
theorem dX12_every_5 : decode cX12_every 5 = .ok (.getfield 83, 3) := by decide +kernel
theorem dX12_every_8 : decode cX12_every 8 = .ok (.ifCond .ne 35, 3) := by decide +kernel
theorem dX12_every_11 : decode cX12_every 11 = .ok (.aload_n 0, 1) := by decide +kernel
theorem dX12_every_12 : decode cX12_every 12 = .ok (.invokevirtual 87, 3) := by decide +kernel
theorem dX12_every_15 : decode cX12_every 15 = .ok (.bipush 38, 2) := by decide +kernel
theorem dX12_every_17 : decode cX12_every 17 = .ok (.if_icmp .ne 26, 3) := by decide +kernel
theorem dX12_every_20 : decode cX12_every 20 = .ok (.aload_n 0, 1) := by decide +kernel
theorem dX12_every_21 : decode cX12_every 21 = .ok (.dup, 1) := by decide +kernel
theorem dX12_every_22 : decode cX12_every 22 = .ok (.getfield 77, 3) := by decide +kernel
theorem dX12_every_25 : decode cX12_every 25 = .ok (.iconst 1, 1) := by decide +kernel
theorem dX12_every_26 : decode cX12_every 26 = .ok (.iadd, 1) := by decide +kernel
theorem dX12_every_27 : decode cX12_every 27 = .ok (.putfield 77, 3) := by decide +kernel
theorem dX12_every_30 : decode cX12_every 30 = .ok (.aload_n 0, 1) := by decide +kernel
theorem dX12_every_31 : decode cX12_every 31 = .ok (.invokevirtual 110, 3) := by decide +kernel
theorem dX12_every_34 : decode cX12_every 34 = .ok (.aload_n 0, 1) := by decide +kernel
theorem dX12_every_35 : decode cX12_every 35 = .ok (.bipush (-2), 2) := by decide +kernel
theorem dX12_every_37 : decode cX12_every 37 = .ok (.invokevirtual 113, 3) := by decide +kernel
theorem dX12_every_40 : decode cX12_every 40 = .ok (.goto (-36), 3) := by decide +kernel
theorem dX12_every_43 : decode cX12_every 43 = .ok (.return_, 1) := by decide +kernel
theorem dX12_some_0 : decode cX12_some 0 = .ok (.aload_n 0, 1) := by decide +kernel
theorem dX12_some_1 : decode cX12_some 1 = .ok (.invokevirtual 130, 3) := by decide +kernel
theorem dX12_some_4 : decode cX12_some 4 = .ok (.aload_n 0, 1) := by decide +kernel
theorem dX12_some_5 : decode cX12_some 5 = .ok (.getfield 83, 3) := by decide +kernel
theorem dX12_some_8 : decode cX12_some 8 = .ok (.ifCond .ne 35, 3) := by decide +kernel
theorem dX12_some_11 : decode cX12_some 11 = .ok (.aload_n 0, 1) := by decide +kernel
theorem dX12_some_12 : decode cX12_some 12 = .ok (.invokevirtual 87, 3) := by decide +kernel
theorem dX12_some_15 : decode cX12_some 15 = .ok (.bipush 124, 2) := by decide +kernel
theorem dX12_some_17 : decode cX12_some 17 = .ok (.if_icmp .ne 26, 3) := by decide +kernel
theorem dX12_some_20 : decode cX12_some 20 = .ok (.aload_n 0, 1) := by decide +kernel
theorem dX12_some_21 : decode cX12_some 21 = .ok (.dup, 1) := by decide +kernel
theorem dX12_some_22 : decode cX12_some 22 = .ok (.getfield 77, 3) := by decide +kernel
theorem dX12_some_25 : decode cX12_some 25 = .ok (.iconst 1, 1) := by decide +kernel
theorem dX12_some_26 : decode cX12_some 26 = .ok (.iadd, 1) := by decide +kernel
theorem dX12_some_27 : decode cX12_some 27 = .ok (.putfield 77, 3) := by decide +kernel
end
section
theorem dX12_some_30 : decode cX12_some 30 = .ok (.aload_n 0, 1) := by decide +kernel
theorem dX12_some_31 : decode cX12_some 31 = .ok (.invokevirtual 130, 3) := by decide +kernel
theorem dX12_some_34 : decode cX12_some 34 = .ok (.aload_n 0, 1) := by decide +kernel
theorem dX12_some_35 : decode cX12_some 35 = .ok (.bipush (-3), 2) := by decide +kernel
theorem dX12_some_37 : decode cX12_some 37 = .ok (.invokevirtual 113, 3) := by decide +kernel
theorem dX12_some_40 : decode cX12_some 40 = .ok (.goto (-36), 3) := by decide +kernel
theorem dX12_some_43 : decode cX12_some 43 = .ok (.return_, 1) := by decide +kernel
theorem dX12_clauseOfC_0 : decode cX12_clauseOfC 0 = .ok (.aload_n 0, 1) := by decide +kernel
theorem dX12_clauseOfC_1 : decode cX12_clauseOfC 1 = .ok (.bipush 99, 2) := by decide +kernel
theorem dX12_clauseOfC_3 : decode cX12_clauseOfC 3 = .ok (.invokevirtual 100, 3) := by decide +kernel
theorem dX12_clauseOfC_6 : decode cX12_clauseOfC 6 = .ok (.aload_n 0, 1) := by decide +kernel
theorem dX12_clauseOfC_7 : decode cX12_clauseOfC 7 = .ok (.invokevirtual 87, 3) := by decide +kernel
theorem dX12_clauseOfC_10 : decode cX12_clauseOfC 10 = .ok (.bipush 111, 2) := by decide +kernel
theorem dX12_clauseOfC_12 : decode cX12_clauseOfC 12 = .ok (.if_icmp .ne 36, 3) := by decide +kernel
theorem dX12_clauseOfC_15 : decode cX12_clauseOfC 15 = .ok (.aload_n 0, 1) := by decide +kernel
theorem dX12_clauseOfC_16 : decode cX12_clauseOfC 16 = .ok (.ldc 133, 2) := by decide +kernel
theorem dX12_clauseOfC_18 : decode cX12_clauseOfC 18 = .ok (.invokevirtual 135, 3) := by decide +kernel
theorem dX12_clauseOfC_21 : decode cX12_clauseOfC 21 = .ok (.aload_n 0, 1) := by decide +kernel
theorem dX12_clauseOfC_22 : decode cX12_clauseOfC 22 = .ok (.invokevirtual 127, 3) := by decide +kernel
theorem dX12_clauseOfC_25 : decode cX12_clauseOfC 25 = .ok (.istore_n 1, 1) := by decide +kernel
theorem dX12_clauseOfC_26 : decode cX12_clauseOfC 26 = .ok (.aload_n 0, 1) := by decide +kernel
theorem dX12_clauseOfC_27 : decode cX12_clauseOfC 27 = .ok (.getfield 83, 3) := by decide +kernel
theorem dX12_clauseOfC_30 : decode cX12_clauseOfC 30 = .ok (.ifCond .ne 17, 3) := by decide +kernel
theorem dX12_clauseOfC_33 : decode cX12_clauseOfC 33 = .ok (.aload_n 0, 1) := by decide +kernel
theorem dX12_clauseOfC_34 : decode cX12_clauseOfC 34 = .ok (.getfield 9, 3) := by decide +kernel
theorem dX12_clauseOfC_37 : decode cX12_clauseOfC 37 = .ok (.sipush 182, 3) := by decide +kernel
theorem dX12_clauseOfC_40 : decode cX12_clauseOfC 40 = .ok (.aload_n 0, 1) := by decide +kernel
theorem dX12_clauseOfC_41 : decode cX12_clauseOfC 41 = .ok (.getfield 104, 3) := by decide +kernel
theorem dX12_clauseOfC_44 : decode cX12_clauseOfC 44 = .ok (.iadd, 1) := by decide +kernel
theorem dX12_clauseOfC_45 : decode cX12_clauseOfC 45 = .ok (.iload_n 1, 1) := by decide +kernel
theorem dX12_clauseOfC_46 : decode cX12_clauseOfC 46 = .ok (.iastore, 1) := by decide +kernel
theorem dX12_clauseOfC_47 : decode cX12_clauseOfC 47 = .ok (.return_, 1) := by decide +kernel
theorem dX12_clauseOfC_48 : decode cX12_clauseOfC 48 = .ok (.aload_n 0, 1) := by decide +kernel
theorem dX12_clauseOfC_49 : decode cX12_clauseOfC 49 = .ok (.ldc 139, 2) := by decide +kernel
theorem dX12_clauseOfC_51 : decode cX12_clauseOfC 51 = .ok (.invokevirtual 135, 3) := by decide +kernel
theorem dX12_clauseOfC_54 : decode cX12_clauseOfC 54 = .ok (.aload_n 0, 1) := by decide +kernel
theorem dX12_clauseOfC_55 : decode cX12_clauseOfC 55 = .ok (.invokevirtual 141, 3) := by decide +kernel
theorem dX12_clauseOfC_58 : decode cX12_clauseOfC 58 = .ok (.istore_n 1, 1) := by decide +kernel
theorem dX12_clauseOfC_59 : decode cX12_clauseOfC 59 = .ok (.aload_n 0, 1) := by decide +kernel
theorem dX12_clauseOfC_60 : decode cX12_clauseOfC 60 = .ok (.invokevirtual 116, 3) := by decide +kernel
theorem dX12_clauseOfC_63 : decode cX12_clauseOfC 63 = .ok (.aload_n 0, 1) := by decide +kernel
theorem dX12_clauseOfC_64 : decode cX12_clauseOfC 64 = .ok (.bipush (-10), 2) := by decide +kernel
theorem dX12_clauseOfC_66 : decode cX12_clauseOfC 66 = .ok (.iload_n 1, 1) := by decide +kernel
theorem dX12_clauseOfC_67 : decode cX12_clauseOfC 67 = .ok (.isub, 1) := by decide +kernel
theorem dX12_clauseOfC_68 : decode cX12_clauseOfC 68 = .ok (.invokevirtual 113, 3) := by decide +kernel
theorem dX12_clauseOfC_71 : decode cX12_clauseOfC 71 = .ok (.return_, 1) := by decide +kernel
theorem dX12_payHere_0 : decode cX12_payHere 0 = .ok (.aload_n 0, 1) := by decide +kernel
theorem dX12_payHere_1 : decode cX12_payHere 1 = .ok (.ldc 144, 2) := by decide +kernel
theorem dX12_payHere_3 : decode cX12_payHere 3 = .ok (.invokevirtual 135, 3) := by decide +kernel
theorem dX12_payHere_6 : decode cX12_payHere 6 = .ok (.aload_n 0, 1) := by decide +kernel
theorem dX12_payHere_7 : decode cX12_payHere 7 = .ok (.invokevirtual 141, 3) := by decide +kernel
theorem dX12_payHere_10 : decode cX12_payHere 10 = .ok (.istore_n 1, 1) := by decide +kernel
theorem dX12_payHere_11 : decode cX12_payHere 11 = .ok (.aload_n 0, 1) := by decide +kernel
theorem dX12_payHere_12 : decode cX12_payHere 12 = .ok (.invokevirtual 127, 3) := by decide +kernel
theorem dX12_payHere_15 : decode cX12_payHere 15 = .ok (.istore_n 2, 1) := by decide +kernel
theorem dX12_payHere_16 : decode cX12_payHere 16 = .ok (.aload_n 0, 1) := by decide +kernel
theorem dX12_payHere_17 : decode cX12_payHere 17 = .ok (.getfield 83, 3) := by decide +kernel
theorem dX12_payHere_20 : decode cX12_payHere 20 = .ok (.ifCond .ne 21, 3) := by decide +kernel
theorem dX12_payHere_23 : decode cX12_payHere 23 = .ok (.aload_n 0, 1) := by decide +kernel
theorem dX12_payHere_24 : decode cX12_payHere 24 = .ok (.getfield 9, 3) := by decide +kernel
theorem dX12_payHere_27 : decode cX12_payHere 27 = .ok (.sipush 167, 3) := by decide +kernel
theorem dX12_payHere_30 : decode cX12_payHere 30 = .ok (.iconst 3, 1) := by decide +kernel
theorem dX12_payHere_31 : decode cX12_payHere 31 = .ok (.aload_n 0, 1) := by decide +kernel
theorem dX12_payHere_32 : decode cX12_payHere 32 = .ok (.getfield 104, 3) := by decide +kernel
theorem dX12_payHere_35 : decode cX12_payHere 35 = .ok (.imul, 1) := by decide +kernel
theorem dX12_payHere_36 : decode cX12_payHere 36 = .ok (.iadd, 1) := by decide +kernel
theorem dX12_payHere_37 : decode cX12_payHere 37 = .ok (.iload_n 1, 1) := by decide +kernel
theorem dX12_payHere_38 : decode cX12_payHere 38 = .ok (.iadd, 1) := by decide +kernel
theorem dX12_payHere_39 : decode cX12_payHere 39 = .ok (.iload_n 2, 1) := by decide +kernel
theorem dX12_payHere_40 : decode cX12_payHere 40 = .ok (.iastore, 1) := by decide +kernel
theorem dX12_payHere_41 : decode cX12_payHere 41 = .ok (.return_, 1) := by decide +kernel
theorem dX12_clauseHere_0 : decode cX12_clauseHere 0 = .ok (.aload_n 0, 1) := by decide +kernel
theorem dX12_clauseHere_1 : decode cX12_clauseHere 1 = .ok (.invokevirtual 87, 3) := by decide +kernel
theorem dX12_clauseHere_4 : decode cX12_clauseHere 4 = .ok (.lookupswitch 42 #[(99, 28), (112, 35)], 28) := by decide +kernel
theorem dX12_clauseHere_32 : decode cX12_clauseHere 32 = .ok (.aload_n 0, 1) := by decide +kernel
theorem dX12_clauseHere_33 : decode cX12_clauseHere 33 = .ok (.invokevirtual 146, 3) := by decide +kernel
theorem dX12_clauseHere_36 : decode cX12_clauseHere 36 = .ok (.goto 15, 3) := by decide +kernel
theorem dX12_clauseHere_39 : decode cX12_clauseHere 39 = .ok (.aload_n 0, 1) := by decide +kernel
theorem dX12_clauseHere_40 : decode cX12_clauseHere 40 = .ok (.invokevirtual 149, 3) := by decide +kernel
theorem dX12_clauseHere_43 : decode cX12_clauseHere 43 = .ok (.goto 8, 3) := by decide +kernel
theorem dX12_clauseHere_46 : decode cX12_clauseHere 46 = .ok (.aload_n 0, 1) := by decide +kernel
theorem dX12_clauseHere_47 : decode cX12_clauseHere 47 = .ok (.iconst 1, 1) := by decide +kernel
theorem dX12_clauseHere_48 : decode cX12_clauseHere 48 = .ok (.putfield 83, 3) := by decide +kernel
theorem dX12_clauseHere_51 : decode cX12_clauseHere 51 = .ok (.return_, 1) := by decide +kernel
theorem dX12_valley_0 : decode cX12_valley 0 = .ok (.aload_n 0, 1) := by decide +kernel
theorem dX12_valley_1 : decode cX12_valley 1 = .ok (.getfield 9, 3) := by decide +kernel
theorem dX12_valley_4 : decode cX12_valley 4 = .ok (.iconst 1, 1) := by decide +kernel
theorem dX12_valley_5 : decode cX12_valley 5 = .ok (.iaload, 1) := by decide +kernel
theorem dX12_valley_6 : decode cX12_valley 6 = .ok (.iconst 5, 1) := by decide +kernel
theorem dX12_valley_7 : decode cX12_valley 7 = .ok (.if_icmp .ne 6, 3) := by decide +kernel
theorem dX12_valley_10 : decode cX12_valley 10 = .ok (.bipush (-4), 2) := by decide +kernel
theorem dX12_valley_12 : decode cX12_valley 12 = .ok (.ireturn, 1) := by decide +kernel
theorem dX12_valley_13 : decode cX12_valley 13 = .ok (.aload_n 0, 1) := by decide +kernel
theorem dX12_valley_14 : decode cX12_valley 14 = .ok (.aload_n 0, 1) := by decide +kernel
theorem dX12_valley_15 : decode cX12_valley 15 = .ok (.getfield 9, 3) := by decide +kernel
theorem dX12_valley_18 : decode cX12_valley 18 = .ok (.iconst 1, 1) := by decide +kernel
theorem dX12_valley_19 : decode cX12_valley 19 = .ok (.iaload, 1) := by decide +kernel
theorem dX12_valley_20 : decode cX12_valley 20 = .ok (.putfield 104, 3) := by decide +kernel
theorem dX12_valley_23 : decode cX12_valley 23 = .ok (.aload_n 0, 1) := by decide +kernel
theorem dX12_valley_24 : decode cX12_valley 24 = .ok (.aload_n 0, 1) := by decide +kernel
theorem dX12_valley_25 : decode cX12_valley 25 = .ok (.getfield 9, 3) := by decide +kernel
theorem dX12_valley_28 : decode cX12_valley 28 = .ok (.iconst 3, 1) := by decide +kernel
theorem dX12_valley_29 : decode cX12_valley 29 = .ok (.iaload, 1) := by decide +kernel
theorem dX12_valley_30 : decode cX12_valley 30 = .ok (.putfield 80, 3) := by decide +kernel
theorem dX12_valley_33 : decode cX12_valley 33 = .ok (.aload_n 0, 1) := by decide +kernel
theorem dX12_valley_34 : decode cX12_valley 34 = .ok (.getfield 9, 3) := by decide +kernel
theorem dX12_valley_37 : decode cX12_valley 37 = .ok (.iconst 3, 1) := by decide +kernel
theorem dX12_valley_38 : decode cX12_valley 38 = .ok (.iconst 0, 1) := by decide +kernel
theorem dX12_valley_39 : decode cX12_valley 39 = .ok (.iastore, 1) := by decide +kernel
theorem dX12_valley_40 : decode cX12_valley 40 = .ok (.aload_n 0, 1) := by decide +kernel
theorem dX12_valley_41 : decode cX12_valley 41 = .ok (.getfield 9, 3) := by decide +kernel
theorem dX12_valley_44 : decode cX12_valley 44 = .ok (.sipush 182, 3) := by decide +kernel
theorem dX12_valley_47 : decode cX12_valley 47 = .ok (.aload_n 0, 1) := by decide +kernel
theorem dX12_valley_48 : decode cX12_valley 48 = .ok (.getfield 104, 3) := by decide +kernel
theorem dX12_valley_51 : decode cX12_valley 51 = .ok (.iadd, 1) := by decide +kernel
theorem dX12_valley_52 : decode cX12_valley 52 = .ok (.iconst 0, 1) := by decide +kernel
theorem dX12_valley_53 : decode cX12_valley 53 = .ok (.iastore, 1) := by decide +kernel
theorem dX12_valley_54 : decode cX12_valley 54 = .ok (.aload_n 0, 1) := by decide +kernel
theorem dX12_valley_55 : decode cX12_valley 55 = .ok (.getfield 9, 3) := by decide +kernel
theorem dX12_valley_58 : decode cX12_valley 58 = .ok (.sipush 187, 3) := by decide +kernel
theorem dX12_valley_61 : decode cX12_valley 61 = .ok (.aload_n 0, 1) := by decide +kernel
theorem dX12_valley_62 : decode cX12_valley 62 = .ok (.getfield 104, 3) := by decide +kernel
theorem dX12_valley_65 : decode cX12_valley 65 = .ok (.iadd, 1) := by decide +kernel
theorem dX12_valley_66 : decode cX12_valley 66 = .ok (.iconst 0, 1) := by decide +kernel
theorem dX12_valley_67 : decode cX12_valley 67 = .ok (.iastore, 1) := by decide +kernel
theorem dX12_valley_68 : decode cX12_valley 68 = .ok (.iconst 0, 1) := by decide +kernel
theorem dX12_valley_69 : decode cX12_valley 69 = .ok (.istore_n 1, 1) := by decide +kernel
theorem dX12_valley_70 : decode cX12_valley 70 = .ok (.iload_n 1, 1) := by decide +kernel
theorem dX12_valley_71 : decode cX12_valley 71 = .ok (.iconst 3, 1) := by decide +kernel
theorem dX12_valley_72 : decode cX12_valley 72 = .ok (.if_icmp .ge 27, 3) := by decide +kernel
theorem dX12_valley_75 : decode cX12_valley 75 = .ok (.aload_n 0, 1) := by decide +kernel
theorem dX12_valley_76 : decode cX12_valley 76 = .ok (.getfield 9, 3) := by decide +kernel
theorem dX12_valley_79 : decode cX12_valley 79 = .ok (.sipush 167, 3) := by decide +kernel
theorem dX12_valley_82 : decode cX12_valley 82 = .ok (.iconst 3, 1) := by decide +kernel
theorem dX12_valley_83 : decode cX12_valley 83 = .ok (.aload_n 0, 1) := by decide +kernel
theorem dX12_valley_84 : decode cX12_valley 84 = .ok (.getfield 104, 3) := by decide +kernel
theorem dX12_valley_87 : decode cX12_valley 87 = .ok (.imul, 1) := by decide +kernel
theorem dX12_valley_88 : decode cX12_valley 88 = .ok (.iadd, 1) := by decide +kernel
theorem dX12_valley_89 : decode cX12_valley 89 = .ok (.iload_n 1, 1) := by decide +kernel
theorem dX12_valley_90 : decode cX12_valley 90 = .ok (.iadd, 1) := by decide +kernel
theorem dX12_valley_91 : decode cX12_valley 91 = .ok (.iconst 1, 1) := by decide +kernel
theorem dX12_valley_92 : decode cX12_valley 92 = .ok (.iastore, 1) := by decide +kernel
theorem dX12_valley_93 : decode cX12_valley 93 = .ok (.iinc 1 1, 3) := by decide +kernel
theorem dX12_valley_96 : decode cX12_valley 96 = .ok (.goto (-26), 3) := by decide +kernel
theorem dX12_valley_99 : decode cX12_valley 99 = .ok (.aload_n 0, 1) := by decide +kernel
theorem dX12_valley_100 : decode cX12_valley 100 = .ok (.iconst 0, 1) := by decide +kernel
theorem dX12_valley_101 : decode cX12_valley 101 = .ok (.putfield 77, 3) := by decide +kernel
theorem dX12_valley_104 : decode cX12_valley 104 = .ok (.aload_n 0, 1) := by decide +kernel
theorem dX12_valley_105 : decode cX12_valley 105 = .ok (.iconst 0, 1) := by decide +kernel
theorem dX12_valley_106 : decode cX12_valley 106 = .ok (.putfield 83, 3) := by decide +kernel
theorem dX12_valley_109 : decode cX12_valley 109 = .ok (.aload_n 0, 1) := by decide +kernel
theorem dX12_valley_110 : decode cX12_valley 110 = .ok (.iconst 0, 1) := by decide +kernel
theorem dX12_valley_111 : decode cX12_valley 111 = .ok (.putfield 107, 3) := by decide +kernel
theorem dX12_valley_114 : decode cX12_valley 114 = .ok (.iconst 1, 1) := by decide +kernel
theorem dX12_valley_115 : decode cX12_valley 115 = .ok (.istore_n 1, 1) := by decide +kernel
theorem dX12_valley_116 : decode cX12_valley 116 = .ok (.aload_n 0, 1) := by decide +kernel
theorem dX12_valley_117 : decode cX12_valley 117 = .ok (.invokevirtual 152, 3) := by decide +kernel
theorem dX12_valley_120 : decode cX12_valley 120 = .ok (.aload_n 0, 1) := by decide +kernel
theorem dX12_valley_121 : decode cX12_valley 121 = .ok (.getfield 83, 3) := by decide +kernel
theorem dX12_valley_124 : decode cX12_valley 124 = .ok (.ifCond .ne 38, 3) := by decide +kernel
theorem dX12_valley_127 : decode cX12_valley 127 = .ok (.iload_n 1, 1) := by decide +kernel
theorem dX12_valley_128 : decode cX12_valley 128 = .ok (.bipush 10, 2) := by decide +kernel
theorem dX12_valley_130 : decode cX12_valley 130 = .ok (.if_icmp .ge 32, 3) := by decide +kernel
theorem dX12_valley_133 : decode cX12_valley 133 = .ok (.aload_n 0, 1) := by decide +kernel
theorem dX12_valley_134 : decode cX12_valley 134 = .ok (.invokevirtual 87, 3) := by decide +kernel
theorem dX12_valley_137 : decode cX12_valley 137 = .ok (.bipush 59, 2) := by decide +kernel
theorem dX12_valley_139 : decode cX12_valley 139 = .ok (.if_icmp .ne 23, 3) := by decide +kernel
theorem dX12_valley_142 : decode cX12_valley 142 = .ok (.aload_n 0, 1) := by decide +kernel
theorem dX12_valley_143 : decode cX12_valley 143 = .ok (.dup, 1) := by decide +kernel
theorem dX12_valley_144 : decode cX12_valley 144 = .ok (.getfield 77, 3) := by decide +kernel
theorem dX12_valley_147 : decode cX12_valley 147 = .ok (.iconst 1, 1) := by decide +kernel
theorem dX12_valley_148 : decode cX12_valley 148 = .ok (.iadd, 1) := by decide +kernel
theorem dX12_valley_149 : decode cX12_valley 149 = .ok (.putfield 77, 3) := by decide +kernel
theorem dX12_valley_152 : decode cX12_valley 152 = .ok (.aload_n 0, 1) := by decide +kernel
theorem dX12_valley_153 : decode cX12_valley 153 = .ok (.invokevirtual 152, 3) := by decide +kernel
theorem dX12_valley_156 : decode cX12_valley 156 = .ok (.iinc 1 1, 3) := by decide +kernel
theorem dX12_valley_159 : decode cX12_valley 159 = .ok (.goto (-39), 3) := by decide +kernel
theorem dX12_valley_162 : decode cX12_valley 162 = .ok (.aload_n 0, 1) := by decide +kernel
theorem dX12_valley_163 : decode cX12_valley 163 = .ok (.getfield 83, 3) := by decide +kernel
theorem dX12_valley_166 : decode cX12_valley 166 = .ok (.ifCond .ne 14, 3) := by decide +kernel
theorem dX12_valley_169 : decode cX12_valley 169 = .ok (.aload_n 0, 1) := by decide +kernel
theorem dX12_valley_170 : decode cX12_valley 170 = .ok (.getfield 77, 3) := by decide +kernel
theorem dX12_valley_173 : decode cX12_valley 173 = .ok (.aload_n 0, 1) := by decide +kernel
theorem dX12_valley_174 : decode cX12_valley 174 = .ok (.getfield 80, 3) := by decide +kernel
theorem dX12_valley_177 : decode cX12_valley 177 = .ok (.if_icmp .eq 11, 3) := by decide +kernel
theorem dX12_valley_180 : decode cX12_valley 180 = .ok (.bipush (-10), 2) := by decide +kernel
theorem dX12_valley_182 : decode cX12_valley 182 = .ok (.aload_n 0, 1) := by decide +kernel
theorem dX12_valley_183 : decode cX12_valley 183 = .ok (.getfield 77, 3) := by decide +kernel
theorem dX12_valley_186 : decode cX12_valley 186 = .ok (.isub, 1) := by decide +kernel
theorem dX12_valley_187 : decode cX12_valley 187 = .ok (.ireturn, 1) := by decide +kernel
theorem dX12_valley_188 : decode cX12_valley 188 = .ok (.aload_n 0, 1) := by decide +kernel
theorem dX12_valley_189 : decode cX12_valley 189 = .ok (.getfield 9, 3) := by decide +kernel
theorem dX12_valley_192 : decode cX12_valley 192 = .ok (.iconst 1, 1) := by decide +kernel
theorem dX12_valley_193 : decode cX12_valley 193 = .ok (.dup2, 1) := by decide +kernel
theorem dX12_valley_194 : decode cX12_valley 194 = .ok (.iaload, 1) := by decide +kernel
theorem dX12_valley_195 : decode cX12_valley 195 = .ok (.iconst 1, 1) := by decide +kernel
theorem dX12_valley_196 : decode cX12_valley 196 = .ok (.iadd, 1) := by decide +kernel
theorem dX12_valley_197 : decode cX12_valley 197 = .ok (.iastore, 1) := by decide +kernel
theorem dX12_valley_198 : decode cX12_valley 198 = .ok (.aload_n 0, 1) := by decide +kernel
theorem dX12_valley_199 : decode cX12_valley 199 = .ok (.getfield 9, 3) := by decide +kernel
theorem dX12_valley_202 : decode cX12_valley 202 = .ok (.iconst 4, 1) := by decide +kernel
theorem dX12_valley_203 : decode cX12_valley 203 = .ok (.aload_n 0, 1) := by decide +kernel
theorem dX12_valley_204 : decode cX12_valley 204 = .ok (.getfield 104, 3) := by decide +kernel
theorem dX12_valley_207 : decode cX12_valley 207 = .ok (.iastore, 1) := by decide +kernel
theorem dX12_valley_208 : decode cX12_valley 208 = .ok (.aload_n 0, 1) := by decide +kernel
theorem dX12_valley_209 : decode cX12_valley 209 = .ok (.getfield 104, 3) := by decide +kernel
theorem dX12_valley_212 : decode cX12_valley 212 = .ok (.ireturn, 1) := by decide +kernel
theorem dX12_pay_0 : decode cX12_pay 0 = .ok (.aload_n 0, 1) := by decide +kernel
theorem dX12_pay_1 : decode cX12_pay 1 = .ok (.getfield 9, 3) := by decide +kernel
theorem dX12_pay_4 : decode cX12_pay 4 = .ok (.iconst 4, 1) := by decide +kernel
theorem dX12_pay_5 : decode cX12_pay 5 = .ok (.iaload, 1) := by decide +kernel
theorem dX12_pay_6 : decode cX12_pay 6 = .ok (.iconst (-1), 1) := by decide +kernel
theorem dX12_pay_7 : decode cX12_pay 7 = .ok (.if_icmp .ne 7, 3) := by decide +kernel
theorem dX12_pay_10 : decode cX12_pay 10 = .ok (.iconst 1, 1) := by decide +kernel
theorem dX12_pay_11 : decode cX12_pay 11 = .ok (.goto 22, 3) := by decide +kernel
theorem dX12_pay_14 : decode cX12_pay 14 = .ok (.aload_n 0, 1) := by decide +kernel
theorem dX12_pay_15 : decode cX12_pay 15 = .ok (.getfield 9, 3) := by decide +kernel
theorem dX12_pay_18 : decode cX12_pay 18 = .ok (.sipush 167, 3) := by decide +kernel
theorem dX12_pay_21 : decode cX12_pay 21 = .ok (.iconst 3, 1) := by decide +kernel
theorem dX12_pay_22 : decode cX12_pay 22 = .ok (.aload_n 0, 1) := by decide +kernel
theorem dX12_pay_23 : decode cX12_pay 23 = .ok (.getfield 9, 3) := by decide +kernel
theorem dX12_pay_26 : decode cX12_pay 26 = .ok (.iconst 4, 1) := by decide +kernel
theorem dX12_pay_27 : decode cX12_pay 27 = .ok (.iaload, 1) := by decide +kernel
theorem dX12_pay_28 : decode cX12_pay 28 = .ok (.imul, 1) := by decide +kernel
theorem dX12_pay_29 : decode cX12_pay 29 = .ok (.iadd, 1) := by decide +kernel
theorem dX12_pay_30 : decode cX12_pay 30 = .ok (.iload_n 1, 1) := by decide +kernel
theorem dX12_pay_31 : decode cX12_pay 31 = .ok (.iadd, 1) := by decide +kernel
theorem dX12_pay_32 : decode cX12_pay 32 = .ok (.iaload, 1) := by decide +kernel
theorem dX12_pay_33 : decode cX12_pay 33 = .ok (.ireturn, 1) := by decide +kernel
theorem dX12_coverTold_0 : decode cX12_coverTold 0 = .ok (.aload_n 0, 1) := by decide +kernel
theorem dX12_coverTold_1 : decode cX12_coverTold 1 = .ok (.getfield 9, 3) := by decide +kernel
theorem dX12_coverTold_4 : decode cX12_coverTold 4 = .ok (.iconst 4, 1) := by decide +kernel
theorem dX12_coverTold_5 : decode cX12_coverTold 5 = .ok (.iaload, 1) := by decide +kernel
theorem dX12_coverTold_6 : decode cX12_coverTold 6 = .ok (.iconst (-1), 1) := by decide +kernel
theorem dX12_coverTold_7 : decode cX12_coverTold 7 = .ok (.if_icmp .ne 7, 3) := by decide +kernel
theorem dX12_coverTold_10 : decode cX12_coverTold 10 = .ok (.iconst 0, 1) := by decide +kernel
theorem dX12_coverTold_11 : decode cX12_coverTold 11 = .ok (.goto 18, 3) := by decide +kernel
theorem dX12_coverTold_14 : decode cX12_coverTold 14 = .ok (.aload_n 0, 1) := by decide +kernel
theorem dX12_coverTold_15 : decode cX12_coverTold 15 = .ok (.getfield 9, 3) := by decide +kernel
theorem dX12_coverTold_18 : decode cX12_coverTold 18 = .ok (.sipush 182, 3) := by decide +kernel
theorem dX12_coverTold_21 : decode cX12_coverTold 21 = .ok (.aload_n 0, 1) := by decide +kernel
theorem dX12_coverTold_22 : decode cX12_coverTold 22 = .ok (.getfield 9, 3) := by decide +kernel
theorem dX12_coverTold_25 : decode cX12_coverTold 25 = .ok (.iconst 4, 1) := by decide +kernel
theorem dX12_coverTold_26 : decode cX12_coverTold 26 = .ok (.iaload, 1) := by decide +kernel
theorem dX12_coverTold_27 : decode cX12_coverTold 27 = .ok (.iadd, 1) := by decide +kernel
theorem dX12_coverTold_28 : decode cX12_coverTold 28 = .ok (.iaload, 1) := by decide +kernel
theorem dX12_coverTold_29 : decode cX12_coverTold 29 = .ok (.ireturn, 1) := by decide +kernel
theorem dX12_told_0 : decode cX12_told 0 = .ok (.iload_n 1, 1) := by decide +kernel
theorem dX12_told_1 : decode cX12_told 1 = .ok (.ifCond .ne 8, 3) := by decide +kernel
theorem dX12_told_4 : decode cX12_told 4 = .ok (.aload_n 0, 1) := by decide +kernel
theorem dX12_told_5 : decode cX12_told 5 = .ok (.invokevirtual 155, 3) := by decide +kernel
theorem dX12_told_8 : decode cX12_told 8 = .ok (.ireturn, 1) := by decide +kernel
theorem dX12_told_9 : decode cX12_told 9 = .ok (.iload_n 1, 1) := by decide +kernel
theorem dX12_told_10 : decode cX12_told 10 = .ok (.iconst 1, 1) := by decide +kernel
theorem dX12_told_11 : decode cX12_told 11 = .ok (.if_icmp .ne 10, 3) := by decide +kernel
theorem dX12_told_14 : decode cX12_told 14 = .ok (.aload_n 0, 1) := by decide +kernel
theorem dX12_told_15 : decode cX12_told 15 = .ok (.getfield 9, 3) := by decide +kernel
theorem dX12_told_18 : decode cX12_told 18 = .ok (.iconst 5, 1) := by decide +kernel
theorem dX12_told_19 : decode cX12_told 19 = .ok (.iaload, 1) := by decide +kernel
theorem dX12_told_20 : decode cX12_told 20 = .ok (.ireturn, 1) := by decide +kernel
theorem dX12_told_21 : decode cX12_told 21 = .ok (.iload_n 1, 1) := by decide +kernel
theorem dX12_told_22 : decode cX12_told 22 = .ok (.iconst 2, 1) := by decide +kernel
theorem dX12_told_23 : decode cX12_told 23 = .ok (.if_icmp .ne 8, 3) := by decide +kernel
theorem dX12_told_26 : decode cX12_told 26 = .ok (.aload_n 0, 1) := by decide +kernel
theorem dX12_told_27 : decode cX12_told 27 = .ok (.invokevirtual 158, 3) := by decide +kernel
theorem dX12_told_30 : decode cX12_told 30 = .ok (.ireturn, 1) := by decide +kernel
theorem dX12_told_31 : decode cX12_told 31 = .ok (.iload_n 1, 1) := by decide +kernel
theorem dX12_told_32 : decode cX12_told 32 = .ok (.bipush 10, 2) := by decide +kernel
theorem dX12_told_34 : decode cX12_told 34 = .ok (.bipush 12, 2) := by decide +kernel
theorem dX12_told_36 : decode cX12_told 36 = .ok (.invokestatic 69, 3) := by decide +kernel
theorem dX12_told_39 : decode cX12_told 39 = .ok (.ifCond .eq 14, 3) := by decide +kernel
theorem dX12_told_42 : decode cX12_told 42 = .ok (.aload_n 0, 1) := by decide +kernel
theorem dX12_told_43 : decode cX12_told 43 = .ok (.iload_n 1, 1) := by decide +kernel
theorem dX12_told_44 : decode cX12_told 44 = .ok (.bipush 10, 2) := by decide +kernel
theorem dX12_told_46 : decode cX12_told 46 = .ok (.isub, 1) := by decide +kernel
theorem dX12_told_47 : decode cX12_told 47 = .ok (.invokevirtual 161, 3) := by decide +kernel
theorem dX12_told_50 : decode cX12_told 50 = .ok (.goto 56, 3) := by decide +kernel
theorem dX12_told_53 : decode cX12_told 53 = .ok (.iload_n 1, 1) := by decide +kernel
theorem dX12_told_54 : decode cX12_told 54 = .ok (.bipush 20, 2) := by decide +kernel
theorem dX12_told_56 : decode cX12_told 56 = .ok (.bipush 22, 2) := by decide +kernel
theorem dX12_told_58 : decode cX12_told 58 = .ok (.invokestatic 69, 3) := by decide +kernel
theorem dX12_told_61 : decode cX12_told 61 = .ok (.ifCond .eq 18, 3) := by decide +kernel
theorem dX12_told_64 : decode cX12_told 64 = .ok (.aload_n 0, 1) := by decide +kernel
theorem dX12_told_65 : decode cX12_told 65 = .ok (.getfield 9, 3) := by decide +kernel
theorem dX12_told_68 : decode cX12_told 68 = .ok (.bipush 9, 2) := by decide +kernel
theorem dX12_told_70 : decode cX12_told 70 = .ok (.iload_n 1, 1) := by decide +kernel
theorem dX12_told_71 : decode cX12_told 71 = .ok (.iadd, 1) := by decide +kernel
theorem dX12_told_72 : decode cX12_told 72 = .ok (.bipush 20, 2) := by decide +kernel
theorem dX12_told_74 : decode cX12_told 74 = .ok (.isub, 1) := by decide +kernel
theorem dX12_told_75 : decode cX12_told 75 = .ok (.iaload, 1) := by decide +kernel
theorem dX12_told_76 : decode cX12_told 76 = .ok (.goto 30, 3) := by decide +kernel
theorem dX12_told_79 : decode cX12_told 79 = .ok (.iload_n 1, 1) := by decide +kernel
theorem dX12_told_80 : decode cX12_told 80 = .ok (.bipush 30, 2) := by decide +kernel
theorem dX12_told_82 : decode cX12_told 82 = .ok (.bipush 32, 2) := by decide +kernel
theorem dX12_told_84 : decode cX12_told 84 = .ok (.invokestatic 69, 3) := by decide +kernel
theorem dX12_told_87 : decode cX12_told 87 = .ok (.ifCond .eq 18, 3) := by decide +kernel
theorem dX12_told_90 : decode cX12_told 90 = .ok (.aload_n 0, 1) := by decide +kernel
theorem dX12_told_91 : decode cX12_told 91 = .ok (.getfield 9, 3) := by decide +kernel
theorem dX12_told_94 : decode cX12_told 94 = .ok (.bipush 6, 2) := by decide +kernel
theorem dX12_told_96 : decode cX12_told 96 = .ok (.iload_n 1, 1) := by decide +kernel
theorem dX12_told_97 : decode cX12_told 97 = .ok (.iadd, 1) := by decide +kernel
theorem dX12_told_98 : decode cX12_told 98 = .ok (.bipush 30, 2) := by decide +kernel
theorem dX12_told_100 : decode cX12_told 100 = .ok (.isub, 1) := by decide +kernel
theorem dX12_told_101 : decode cX12_told 101 = .ok (.iaload, 1) := by decide +kernel
theorem dX12_told_102 : decode cX12_told 102 = .ok (.goto 4, 3) := by decide +kernel
theorem dX12_told_105 : decode cX12_told 105 = .ok (.iconst (-1), 1) := by decide +kernel
theorem dX12_told_106 : decode cX12_told 106 = .ok (.ireturn, 1) := by decide +kernel
theorem dX12_stage_0 : decode cX12_stage 0 = .ok (.iload_n 1, 1) := by decide +kernel
theorem dX12_stage_1 : decode cX12_stage 1 = .ok (.invokestatic 165, 3) := by decide +kernel
theorem dX12_stage_4 : decode cX12_stage 4 = .ok (.ifCond .ne 5, 3) := by decide +kernel
theorem dX12_stage_7 : decode cX12_stage 7 = .ok (.iconst (-1), 1) := by decide +kernel
theorem dX12_stage_8 : decode cX12_stage 8 = .ok (.ireturn, 1) := by decide +kernel
theorem dX12_stage_9 : decode cX12_stage 9 = .ok (.iload_n 2, 1) := by decide +kernel
theorem dX12_stage_10 : decode cX12_stage 10 = .ok (.iconst 0, 1) := by decide +kernel
theorem dX12_stage_11 : decode cX12_stage 11 = .ok (.iconst 2, 1) := by decide +kernel
theorem dX12_stage_12 : decode cX12_stage 12 = .ok (.invokestatic 69, 3) := by decide +kernel
theorem dX12_stage_15 : decode cX12_stage 15 = .ok (.ifCond .ne 6, 3) := by decide +kernel
theorem dX12_stage_18 : decode cX12_stage 18 = .ok (.bipush (-2), 2) := by decide +kernel
theorem dX12_stage_20 : decode cX12_stage 20 = .ok (.ireturn, 1) := by decide +kernel
theorem dX12_stage_21 : decode cX12_stage 21 = .ok (.aload_n 0, 1) := by decide +kernel
theorem dX12_stage_22 : decode cX12_stage 22 = .ok (.getfield 9, 3) := by decide +kernel
theorem dX12_stage_25 : decode cX12_stage 25 = .ok (.bipush 9, 2) := by decide +kernel
theorem dX12_stage_27 : decode cX12_stage 27 = .ok (.iload_n 1, 1) := by decide +kernel
theorem dX12_stage_28 : decode cX12_stage 28 = .ok (.iadd, 1) := by decide +kernel
theorem dX12_stage_29 : decode cX12_stage 29 = .ok (.iaload, 1) := by decide +kernel
theorem dX12_stage_30 : decode cX12_stage 30 = .ok (.istore_n 3, 1) := by decide +kernel
theorem dX12_stage_31 : decode cX12_stage 31 = .ok (.aload_n 0, 1) := by decide +kernel
theorem dX12_stage_32 : decode cX12_stage 32 = .ok (.getfield 9, 3) := by decide +kernel
theorem dX12_stage_35 : decode cX12_stage 35 = .ok (.bipush 9, 2) := by decide +kernel
theorem dX12_stage_37 : decode cX12_stage 37 = .ok (.iload_n 1, 1) := by decide +kernel
theorem dX12_stage_38 : decode cX12_stage 38 = .ok (.iadd, 1) := by decide +kernel
theorem dX12_stage_39 : decode cX12_stage 39 = .ok (.iload_n 2, 1) := by decide +kernel
theorem dX12_stage_40 : decode cX12_stage 40 = .ok (.iastore, 1) := by decide +kernel
theorem dX12_stage_41 : decode cX12_stage 41 = .ok (.iload_n 3, 1) := by decide +kernel
theorem dX12_stage_42 : decode cX12_stage 42 = .ok (.ireturn, 1) := by decide +kernel
theorem dX12_stateOf_0 : decode cX12_stateOf 0 = .ok (.bipush 27, 2) := by decide +kernel
theorem dX12_stateOf_2 : decode cX12_stateOf 2 = .ok (.bipush 36, 2) := by decide +kernel
theorem dX12_stateOf_4 : decode cX12_stateOf 4 = .ok (.iload_n 0, 1) := by decide +kernel
theorem dX12_stateOf_5 : decode cX12_stateOf 5 = .ok (.imul, 1) := by decide +kernel
theorem dX12_stateOf_6 : decode cX12_stateOf 6 = .ok (.bipush 6, 2) := by decide +kernel
theorem dX12_stateOf_8 : decode cX12_stateOf 8 = .ok (.iload_n 1, 1) := by decide +kernel
theorem dX12_stateOf_9 : decode cX12_stateOf 9 = .ok (.imul, 1) := by decide +kernel
theorem dX12_stateOf_10 : decode cX12_stateOf 10 = .ok (.iadd, 1) := by decide +kernel
theorem dX12_stateOf_11 : decode cX12_stateOf 11 = .ok (.iload_n 2, 1) := by decide +kernel
theorem dX12_stateOf_12 : decode cX12_stateOf 12 = .ok (.iadd, 1) := by decide +kernel
theorem dX12_stateOf_13 : decode cX12_stateOf 13 = .ok (.imul, 1) := by decide +kernel
theorem dX12_stateOf_14 : decode cX12_stateOf 14 = .ok (.iload_n 3, 1) := by decide +kernel
theorem dX12_stateOf_15 : decode cX12_stateOf 15 = .ok (.iadd, 1) := by decide +kernel
theorem dX12_stateOf_16 : decode cX12_stateOf 16 = .ok (.ireturn, 1) := by decide +kernel
theorem dX12_stateNow_0 : decode cX12_stateNow 0 = .ok (.aload_n 0, 1) := by decide +kernel
theorem dX12_stateNow_1 : decode cX12_stateNow 1 = .ok (.getfield 9, 3) := by decide +kernel
theorem dX12_stateNow_4 : decode cX12_stateNow 4 = .ok (.bipush 6, 2) := by decide +kernel
theorem dX12_stateNow_6 : decode cX12_stateNow 6 = .ok (.iaload, 1) := by decide +kernel
theorem dX12_stateNow_7 : decode cX12_stateNow 7 = .ok (.aload_n 0, 1) := by decide +kernel
theorem dX12_stateNow_8 : decode cX12_stateNow 8 = .ok (.getfield 9, 3) := by decide +kernel
theorem dX12_stateNow_11 : decode cX12_stateNow 11 = .ok (.bipush 7, 2) := by decide +kernel
theorem dX12_stateNow_13 : decode cX12_stateNow 13 = .ok (.iaload, 1) := by decide +kernel
theorem dX12_stateNow_14 : decode cX12_stateNow 14 = .ok (.aload_n 0, 1) := by decide +kernel
theorem dX12_stateNow_15 : decode cX12_stateNow 15 = .ok (.getfield 9, 3) := by decide +kernel
theorem dX12_stateNow_18 : decode cX12_stateNow 18 = .ok (.bipush 8, 2) := by decide +kernel
theorem dX12_stateNow_20 : decode cX12_stateNow 20 = .ok (.iaload, 1) := by decide +kernel
theorem dX12_stateNow_21 : decode cX12_stateNow 21 = .ok (.bipush 9, 2) := by decide +kernel
theorem dX12_stateNow_23 : decode cX12_stateNow 23 = .ok (.aload_n 0, 1) := by decide +kernel
theorem dX12_stateNow_24 : decode cX12_stateNow 24 = .ok (.getfield 9, 3) := by decide +kernel
theorem dX12_stateNow_27 : decode cX12_stateNow 27 = .ok (.bipush 9, 2) := by decide +kernel
theorem dX12_stateNow_29 : decode cX12_stateNow 29 = .ok (.iaload, 1) := by decide +kernel
theorem dX12_stateNow_30 : decode cX12_stateNow 30 = .ok (.imul, 1) := by decide +kernel
theorem dX12_stateNow_31 : decode cX12_stateNow 31 = .ok (.iconst 3, 1) := by decide +kernel
theorem dX12_stateNow_32 : decode cX12_stateNow 32 = .ok (.aload_n 0, 1) := by decide +kernel
theorem dX12_stateNow_33 : decode cX12_stateNow 33 = .ok (.getfield 9, 3) := by decide +kernel
theorem dX12_stateNow_36 : decode cX12_stateNow 36 = .ok (.bipush 10, 2) := by decide +kernel
theorem dX12_stateNow_38 : decode cX12_stateNow 38 = .ok (.iaload, 1) := by decide +kernel
theorem dX12_stateNow_39 : decode cX12_stateNow 39 = .ok (.imul, 1) := by decide +kernel
theorem dX12_stateNow_40 : decode cX12_stateNow 40 = .ok (.iadd, 1) := by decide +kernel
theorem dX12_stateNow_41 : decode cX12_stateNow 41 = .ok (.aload_n 0, 1) := by decide +kernel
theorem dX12_stateNow_42 : decode cX12_stateNow 42 = .ok (.getfield 9, 3) := by decide +kernel
theorem dX12_stateNow_45 : decode cX12_stateNow 45 = .ok (.bipush 11, 2) := by decide +kernel
theorem dX12_stateNow_47 : decode cX12_stateNow 47 = .ok (.iaload, 1) := by decide +kernel
theorem dX12_stateNow_48 : decode cX12_stateNow 48 = .ok (.iadd, 1) := by decide +kernel
theorem dX12_stateNow_49 : decode cX12_stateNow 49 = .ok (.invokestatic 168, 3) := by decide +kernel
theorem dX12_stateNow_52 : decode cX12_stateNow 52 = .ok (.ireturn, 1) := by decide +kernel
theorem dX12_left_0 : decode cX12_left 0 = .ok (.iload_n 0, 1) := by decide +kernel
theorem dX12_left_1 : decode cX12_left 1 = .ok (.bipush 27, 2) := by decide +kernel
theorem dX12_left_3 : decode cX12_left 3 = .ok (.idiv, 1) := by decide +kernel
theorem dX12_left_4 : decode cX12_left 4 = .ok (.istore_n 2, 1) := by decide +kernel
theorem dX12_left_5 : decode cX12_left 5 = .ok (.iload_n 1, 1) := by decide +kernel
theorem dX12_left_6 : decode cX12_left 6 = .ok (.ifCond .ne 10, 3) := by decide +kernel
theorem dX12_left_9 : decode cX12_left 9 = .ok (.iload_n 2, 1) := by decide +kernel
theorem dX12_left_10 : decode cX12_left 10 = .ok (.bipush 36, 2) := by decide +kernel
theorem dX12_left_12 : decode cX12_left 12 = .ok (.idiv, 1) := by decide +kernel
theorem dX12_left_13 : decode cX12_left 13 = .ok (.goto 22, 3) := by decide +kernel
theorem dX12_left_16 : decode cX12_left 16 = .ok (.iload_n 1, 1) := by decide +kernel
theorem dX12_left_17 : decode cX12_left 17 = .ok (.iconst 1, 1) := by decide +kernel
theorem dX12_left_18 : decode cX12_left 18 = .ok (.if_icmp .ne 13, 3) := by decide +kernel
theorem dX12_left_21 : decode cX12_left 21 = .ok (.iload_n 2, 1) := by decide +kernel
theorem dX12_left_22 : decode cX12_left 22 = .ok (.bipush 6, 2) := by decide +kernel
theorem dX12_left_24 : decode cX12_left 24 = .ok (.idiv, 1) := by decide +kernel
theorem dX12_left_25 : decode cX12_left 25 = .ok (.bipush 6, 2) := by decide +kernel
theorem dX12_left_27 : decode cX12_left 27 = .ok (.irem, 1) := by decide +kernel
theorem dX12_left_28 : decode cX12_left 28 = .ok (.goto 7, 3) := by decide +kernel
theorem dX12_left_31 : decode cX12_left 31 = .ok (.iload_n 2, 1) := by decide +kernel
theorem dX12_left_32 : decode cX12_left 32 = .ok (.bipush 6, 2) := by decide +kernel
theorem dX12_left_34 : decode cX12_left 34 = .ok (.irem, 1) := by decide +kernel
theorem dX12_left_35 : decode cX12_left 35 = .ok (.ireturn, 1) := by decide +kernel
theorem dX12_leftInAll_0 : decode cX12_leftInAll 0 = .ok (.iload_n 0, 1) := by decide +kernel
theorem dX12_leftInAll_1 : decode cX12_leftInAll 1 = .ok (.iconst 0, 1) := by decide +kernel
theorem dX12_leftInAll_2 : decode cX12_leftInAll 2 = .ok (.invokestatic 172, 3) := by decide +kernel
theorem dX12_leftInAll_5 : decode cX12_leftInAll 5 = .ok (.iload_n 0, 1) := by decide +kernel
theorem dX12_leftInAll_6 : decode cX12_leftInAll 6 = .ok (.iconst 1, 1) := by decide +kernel
theorem dX12_leftInAll_7 : decode cX12_leftInAll 7 = .ok (.invokestatic 172, 3) := by decide +kernel
theorem dX12_leftInAll_10 : decode cX12_leftInAll 10 = .ok (.iadd, 1) := by decide +kernel
theorem dX12_leftInAll_11 : decode cX12_leftInAll 11 = .ok (.iload_n 0, 1) := by decide +kernel
theorem dX12_leftInAll_12 : decode cX12_leftInAll 12 = .ok (.iconst 2, 1) := by decide +kernel
theorem dX12_leftInAll_13 : decode cX12_leftInAll 13 = .ok (.invokestatic 172, 3) := by decide +kernel
theorem dX12_leftInAll_16 : decode cX12_leftInAll 16 = .ok (.iadd, 1) := by decide +kernel
theorem dX12_leftInAll_17 : decode cX12_leftInAll 17 = .ok (.ireturn, 1) := by decide +kernel
theorem dX12_stageOf_0 : decode cX12_stageOf 0 = .ok (.iload_n 0, 1) := by decide +kernel
theorem dX12_stageOf_1 : decode cX12_stageOf 1 = .ok (.bipush 27, 2) := by decide +kernel
theorem dX12_stageOf_3 : decode cX12_stageOf 3 = .ok (.irem, 1) := by decide +kernel
theorem dX12_stageOf_4 : decode cX12_stageOf 4 = .ok (.istore_n 2, 1) := by decide +kernel
theorem dX12_stageOf_5 : decode cX12_stageOf 5 = .ok (.iload_n 1, 1) := by decide +kernel
theorem dX12_stageOf_6 : decode cX12_stageOf 6 = .ok (.ifCond .ne 10, 3) := by decide +kernel
theorem dX12_stageOf_9 : decode cX12_stageOf 9 = .ok (.iload_n 2, 1) := by decide +kernel
theorem dX12_stageOf_10 : decode cX12_stageOf 10 = .ok (.bipush 9, 2) := by decide +kernel
theorem dX12_stageOf_12 : decode cX12_stageOf 12 = .ok (.idiv, 1) := by decide +kernel
theorem dX12_stageOf_13 : decode cX12_stageOf 13 = .ok (.goto 19, 3) := by decide +kernel
theorem dX12_stageOf_16 : decode cX12_stageOf 16 = .ok (.iload_n 1, 1) := by decide +kernel
theorem dX12_stageOf_17 : decode cX12_stageOf 17 = .ok (.iconst 1, 1) := by decide +kernel
theorem dX12_stageOf_18 : decode cX12_stageOf 18 = .ok (.if_icmp .ne 11, 3) := by decide +kernel
theorem dX12_stageOf_21 : decode cX12_stageOf 21 = .ok (.iload_n 2, 1) := by decide +kernel
theorem dX12_stageOf_22 : decode cX12_stageOf 22 = .ok (.iconst 3, 1) := by decide +kernel
theorem dX12_stageOf_23 : decode cX12_stageOf 23 = .ok (.idiv, 1) := by decide +kernel
theorem dX12_stageOf_24 : decode cX12_stageOf 24 = .ok (.iconst 3, 1) := by decide +kernel
theorem dX12_stageOf_25 : decode cX12_stageOf 25 = .ok (.irem, 1) := by decide +kernel
theorem dX12_stageOf_26 : decode cX12_stageOf 26 = .ok (.goto 6, 3) := by decide +kernel
theorem dX12_stageOf_29 : decode cX12_stageOf 29 = .ok (.iload_n 2, 1) := by decide +kernel
theorem dX12_stageOf_30 : decode cX12_stageOf 30 = .ok (.iconst 3, 1) := by decide +kernel
theorem dX12_stageOf_31 : decode cX12_stageOf 31 = .ok (.irem, 1) := by decide +kernel
theorem dX12_stageOf_32 : decode cX12_stageOf 32 = .ok (.ireturn, 1) := by decide +kernel
theorem dX12_drawn_0 : decode cX12_drawn 0 = .ok (.iload_n 0, 1) := by decide +kernel
theorem dX12_drawn_1 : decode cX12_drawn 1 = .ok (.bipush 27, 2) := by decide +kernel
theorem dX12_drawn_3 : decode cX12_drawn 3 = .ok (.iload_n 1, 1) := by decide +kernel
theorem dX12_drawn_4 : decode cX12_drawn 4 = .ok (.ifCond .ne 8, 3) := by decide +kernel
theorem dX12_drawn_7 : decode cX12_drawn 7 = .ok (.bipush 36, 2) := by decide +kernel
theorem dX12_drawn_9 : decode cX12_drawn 9 = .ok (.goto 14, 3) := by decide +kernel
theorem dX12_drawn_12 : decode cX12_drawn 12 = .ok (.iload_n 1, 1) := by decide +kernel
theorem dX12_drawn_13 : decode cX12_drawn 13 = .ok (.iconst 1, 1) := by decide +kernel
theorem dX12_drawn_14 : decode cX12_drawn 14 = .ok (.if_icmp .ne 8, 3) := by decide +kernel
theorem dX12_drawn_17 : decode cX12_drawn 17 = .ok (.bipush 6, 2) := by decide +kernel
theorem dX12_drawn_19 : decode cX12_drawn 19 = .ok (.goto 4, 3) := by decide +kernel
theorem dX12_drawn_22 : decode cX12_drawn 22 = .ok (.iconst 1, 1) := by decide +kernel
theorem dX12_drawn_23 : decode cX12_drawn 23 = .ok (.imul, 1) := by decide +kernel
theorem dX12_drawn_24 : decode cX12_drawn 24 = .ok (.isub, 1) := by decide +kernel
theorem dX12_drawn_25 : decode cX12_drawn 25 = .ok (.ireturn, 1) := by decide +kernel
theorem dX12_done_0 : decode cX12_done 0 = .ok (.iload_n 1, 1) := by decide +kernel
theorem dX12_done_1 : decode cX12_done 1 = .ok (.iconst (-1), 1) := by decide +kernel
theorem dX12_done_2 : decode cX12_done 2 = .ok (.if_icmp .ne 7, 3) := by decide +kernel
theorem dX12_done_5 : decode cX12_done 5 = .ok (.iload_n 0, 1) := by decide +kernel
theorem dX12_done_6 : decode cX12_done 6 = .ok (.goto 24, 3) := by decide +kernel
theorem dX12_done_9 : decode cX12_done 9 = .ok (.iload_n 0, 1) := by decide +kernel
theorem dX12_done_10 : decode cX12_done 10 = .ok (.iload_n 1, 1) := by decide +kernel
theorem dX12_done_11 : decode cX12_done 11 = .ok (.ifCond .ne 8, 3) := by decide +kernel
theorem dX12_done_14 : decode cX12_done 14 = .ok (.bipush 9, 2) := by decide +kernel
theorem dX12_done_16 : decode cX12_done 16 = .ok (.goto 13, 3) := by decide +kernel
theorem dX12_done_19 : decode cX12_done 19 = .ok (.iload_n 1, 1) := by decide +kernel
theorem dX12_done_20 : decode cX12_done 20 = .ok (.iconst 1, 1) := by decide +kernel
theorem dX12_done_21 : decode cX12_done 21 = .ok (.if_icmp .ne 7, 3) := by decide +kernel
theorem dX12_done_24 : decode cX12_done 24 = .ok (.iconst 3, 1) := by decide +kernel
theorem dX12_done_25 : decode cX12_done 25 = .ok (.goto 4, 3) := by decide +kernel
theorem dX12_done_28 : decode cX12_done 28 = .ok (.iconst 1, 1) := by decide +kernel
theorem dX12_done_29 : decode cX12_done 29 = .ok (.iadd, 1) := by decide +kernel
theorem dX12_done_30 : decode cX12_done 30 = .ok (.ireturn, 1) := by decide +kernel
theorem dX12_asksFromNow_0 : decode cX12_asksFromNow 0 = .ok (.aload_n 0, 1) := by decide +kernel
theorem dX12_asksFromNow_1 : decode cX12_asksFromNow 1 = .ok (.aload_n 0, 1) := by decide +kernel
theorem dX12_asksFromNow_2 : decode cX12_asksFromNow 2 = .ok (.getfield 9, 3) := by decide +kernel
theorem dX12_asksFromNow_5 : decode cX12_asksFromNow 5 = .ok (.iconst 5, 1) := by decide +kernel
theorem dX12_asksFromNow_6 : decode cX12_asksFromNow 6 = .ok (.iaload, 1) := by decide +kernel
theorem dX12_asksFromNow_7 : decode cX12_asksFromNow 7 = .ok (.putfield 176, 3) := by decide +kernel
theorem dX12_asksFromNow_10 : decode cX12_asksFromNow 10 = .ok (.aload_n 0, 1) := by decide +kernel
theorem dX12_asksFromNow_11 : decode cX12_asksFromNow 11 = .ok (.aload_n 0, 1) := by decide +kernel
theorem dX12_asksFromNow_12 : decode cX12_asksFromNow 12 = .ok (.invokevirtual 158, 3) := by decide +kernel
theorem dX12_asksFromNow_15 : decode cX12_asksFromNow 15 = .ok (.putfield 179, 3) := by decide +kernel
theorem dX12_asksFromNow_18 : decode cX12_asksFromNow 18 = .ok (.return_, 1) := by decide +kernel
theorem dX12_can_0 : decode cX12_can 0 = .ok (.iload_n 1, 1) := by decide +kernel
theorem dX12_can_1 : decode cX12_can 1 = .ok (.iload_n 3, 1) := by decide +kernel
theorem dX12_can_2 : decode cX12_can 2 = .ok (.invokestatic 182, 3) := by decide +kernel
theorem dX12_can_5 : decode cX12_can 5 = .ok (.iconst 2, 1) := by decide +kernel
theorem dX12_can_6 : decode cX12_can 6 = .ok (.if_icmp .ne 5, 3) := by decide +kernel
theorem dX12_can_9 : decode cX12_can 9 = .ok (.iconst 0, 1) := by decide +kernel
theorem dX12_can_10 : decode cX12_can 10 = .ok (.ireturn, 1) := by decide +kernel
theorem dX12_can_11 : decode cX12_can 11 = .ok (.bipush 36, 2) := by decide +kernel
theorem dX12_can_13 : decode cX12_can 13 = .ok (.bipush 16, 2) := by decide +kernel
theorem dX12_can_15 : decode cX12_can 15 = .ok (.iload_n 2, 1) := by decide +kernel
theorem dX12_can_16 : decode cX12_can 16 = .ok (.imul, 1) := by decide +kernel
theorem dX12_can_17 : decode cX12_can 17 = .ok (.iload_n 1, 1) := by decide +kernel
theorem dX12_can_18 : decode cX12_can 18 = .ok (.invokestatic 185, 3) := by decide +kernel
theorem dX12_can_21 : decode cX12_can 21 = .ok (.iadd, 1) := by decide +kernel
theorem dX12_can_22 : decode cX12_can 22 = .ok (.imul, 1) := by decide +kernel
theorem dX12_can_23 : decode cX12_can 23 = .ok (.bipush 6, 2) := by decide +kernel
theorem dX12_can_25 : decode cX12_can 25 = .ok (.iload_n 1, 1) := by decide +kernel
theorem dX12_can_26 : decode cX12_can 26 = .ok (.iload_n 2, 1) := by decide +kernel
theorem dX12_can_27 : decode cX12_can 27 = .ok (.invokestatic 172, 3) := by decide +kernel
theorem dX12_can_30 : decode cX12_can 30 = .ok (.imul, 1) := by decide +kernel
theorem dX12_can_31 : decode cX12_can 31 = .ok (.iadd, 1) := by decide +kernel
theorem dX12_can_32 : decode cX12_can 32 = .ok (.iconst 3, 1) := by decide +kernel
theorem dX12_can_33 : decode cX12_can 33 = .ok (.iload_n 1, 1) := by decide +kernel
theorem dX12_can_34 : decode cX12_can 34 = .ok (.iload_n 3, 1) := by decide +kernel
theorem dX12_can_35 : decode cX12_can 35 = .ok (.invokestatic 182, 3) := by decide +kernel
theorem dX12_can_38 : decode cX12_can 38 = .ok (.imul, 1) := by decide +kernel
theorem dX12_can_39 : decode cX12_can 39 = .ok (.iadd, 1) := by decide +kernel
theorem dX12_can_40 : decode cX12_can 40 = .ok (.iload_n 3, 1) := by decide +kernel
theorem dX12_can_41 : decode cX12_can 41 = .ok (.iadd, 1) := by decide +kernel
theorem dX12_can_42 : decode cX12_can 42 = .ok (.istore 4, 2) := by decide +kernel
theorem dX12_can_44 : decode cX12_can 44 = .ok (.aload_n 0, 1) := by decide +kernel
theorem dX12_can_45 : decode cX12_can 45 = .ok (.getfield 25, 3) := by decide +kernel
theorem dX12_can_48 : decode cX12_can 48 = .ok (.iload 4, 2) := by decide +kernel
theorem dX12_can_50 : decode cX12_can 50 = .ok (.iaload, 1) := by decide +kernel
theorem dX12_can_51 : decode cX12_can 51 = .ok (.iconst 2, 1) := by decide +kernel
theorem dX12_can_52 : decode cX12_can 52 = .ok (.idiv, 1) := by decide +kernel
theorem dX12_can_53 : decode cX12_can 53 = .ok (.aload_n 0, 1) := by decide +kernel
theorem dX12_can_54 : decode cX12_can 54 = .ok (.getfield 188, 3) := by decide +kernel
theorem dX12_can_57 : decode cX12_can 57 = .ok (.if_icmp .eq 32, 3) := by decide +kernel
theorem dX12_can_60 : decode cX12_can 60 = .ok (.aload_n 0, 1) := by decide +kernel
theorem dX12_can_61 : decode cX12_can 61 = .ok (.getfield 25, 3) := by decide +kernel
theorem dX12_can_64 : decode cX12_can 64 = .ok (.iload 4, 2) := by decide +kernel
theorem dX12_can_66 : decode cX12_can 66 = .ok (.iconst 2, 1) := by decide +kernel
theorem dX12_can_67 : decode cX12_can 67 = .ok (.aload_n 0, 1) := by decide +kernel
theorem dX12_can_68 : decode cX12_can 68 = .ok (.getfield 188, 3) := by decide +kernel
theorem dX12_can_71 : decode cX12_can 71 = .ok (.imul, 1) := by decide +kernel
theorem dX12_can_72 : decode cX12_can 72 = .ok (.aload_n 0, 1) := by decide +kernel
theorem dX12_can_73 : decode cX12_can 73 = .ok (.iload_n 1, 1) := by decide +kernel
theorem dX12_can_74 : decode cX12_can 74 = .ok (.iload_n 2, 1) := by decide +kernel
theorem dX12_can_75 : decode cX12_can 75 = .ok (.iload_n 3, 1) := by decide +kernel
theorem dX12_can_76 : decode cX12_can 76 = .ok (.invokevirtual 191, 3) := by decide +kernel
theorem dX12_can_79 : decode cX12_can 79 = .ok (.ifCond .eq 7, 3) := by decide +kernel
theorem dX12_can_82 : decode cX12_can 82 = .ok (.iconst 1, 1) := by decide +kernel
theorem dX12_can_83 : decode cX12_can 83 = .ok (.goto 4, 3) := by decide +kernel
theorem dX12_can_86 : decode cX12_can 86 = .ok (.iconst 0, 1) := by decide +kernel
theorem dX12_can_87 : decode cX12_can 87 = .ok (.iadd, 1) := by decide +kernel
theorem dX12_can_88 : decode cX12_can 88 = .ok (.iastore, 1) := by decide +kernel
theorem dX12_can_89 : decode cX12_can 89 = .ok (.aload_n 0, 1) := by decide +kernel
theorem dX12_can_90 : decode cX12_can 90 = .ok (.getfield 25, 3) := by decide +kernel
theorem dX12_can_93 : decode cX12_can 93 = .ok (.iload 4, 2) := by decide +kernel
theorem dX12_can_95 : decode cX12_can 95 = .ok (.iaload, 1) := by decide +kernel
theorem dX12_can_96 : decode cX12_can 96 = .ok (.iconst 2, 1) := by decide +kernel
theorem dX12_can_97 : decode cX12_can 97 = .ok (.irem, 1) := by decide +kernel
theorem dX12_can_98 : decode cX12_can 98 = .ok (.iconst 1, 1) := by decide +kernel
theorem dX12_can_99 : decode cX12_can 99 = .ok (.if_icmp .ne 7, 3) := by decide +kernel
theorem dX12_can_102 : decode cX12_can 102 = .ok (.iconst 1, 1) := by decide +kernel
theorem dX12_can_103 : decode cX12_can 103 = .ok (.goto 4, 3) := by decide +kernel
theorem dX12_can_106 : decode cX12_can 106 = .ok (.iconst 0, 1) := by decide +kernel
theorem dX12_can_107 : decode cX12_can 107 = .ok (.ireturn, 1) := by decide +kernel
theorem dX12_canOn_0 : decode cX12_canOn 0 = .ok (.iload_n 1, 1) := by decide +kernel
theorem dX12_canOn_1 : decode cX12_canOn 1 = .ok (.iload_n 3, 1) := by decide +kernel
theorem dX12_canOn_2 : decode cX12_canOn 2 = .ok (.invokestatic 182, 3) := by decide +kernel
theorem dX12_canOn_5 : decode cX12_canOn 5 = .ok (.iconst 2, 1) := by decide +kernel
theorem dX12_canOn_6 : decode cX12_canOn 6 = .ok (.if_icmp .eq 13, 3) := by decide +kernel
theorem dX12_canOn_9 : decode cX12_canOn 9 = .ok (.aload_n 0, 1) := by decide +kernel
theorem dX12_canOn_10 : decode cX12_canOn 10 = .ok (.getfield 9, 3) := by decide +kernel
theorem dX12_canOn_13 : decode cX12_canOn 13 = .ok (.iconst 4, 1) := by decide +kernel
theorem dX12_canOn_14 : decode cX12_canOn 14 = .ok (.iaload, 1) := by decide +kernel
theorem dX12_canOn_15 : decode cX12_canOn 15 = .ok (.iconst (-1), 1) := by decide +kernel
theorem dX12_canOn_16 : decode cX12_canOn 16 = .ok (.if_icmp .ne 5, 3) := by decide +kernel
theorem dX12_canOn_19 : decode cX12_canOn 19 = .ok (.iconst 0, 1) := by decide +kernel
theorem dX12_canOn_20 : decode cX12_canOn 20 = .ok (.ireturn, 1) := by decide +kernel
theorem dX12_canOn_21 : decode cX12_canOn 21 = .ok (.aload_n 0, 1) := by decide +kernel
theorem dX12_canOn_22 : decode cX12_canOn 22 = .ok (.getfield 18, 3) := by decide +kernel
theorem dX12_canOn_25 : decode cX12_canOn 25 = .ok (.iconst 0, 1) := by decide +kernel
theorem dX12_canOn_26 : decode cX12_canOn 26 = .ok (.iload_n 2, 1) := by decide +kernel
theorem dX12_canOn_27 : decode cX12_canOn 27 = .ok (.iastore, 1) := by decide +kernel
theorem dX12_canOn_28 : decode cX12_canOn 28 = .ok (.aload_n 0, 1) := by decide +kernel
theorem dX12_canOn_29 : decode cX12_canOn 29 = .ok (.getfield 18, 3) := by decide +kernel
theorem dX12_canOn_32 : decode cX12_canOn 32 = .ok (.iconst 1, 1) := by decide +kernel
theorem dX12_canOn_33 : decode cX12_canOn 33 = .ok (.iload_n 1, 1) := by decide +kernel
theorem dX12_canOn_34 : decode cX12_canOn 34 = .ok (.iload_n 3, 1) := by decide +kernel
theorem dX12_canOn_35 : decode cX12_canOn 35 = .ok (.invokestatic 182, 3) := by decide +kernel
theorem dX12_canOn_38 : decode cX12_canOn 38 = .ok (.iastore, 1) := by decide +kernel
theorem dX12_canOn_39 : decode cX12_canOn 39 = .ok (.aload_n 0, 1) := by decide +kernel
theorem dX12_canOn_40 : decode cX12_canOn 40 = .ok (.getfield 18, 3) := by decide +kernel
theorem dX12_canOn_43 : decode cX12_canOn 43 = .ok (.iconst 2, 1) := by decide +kernel
theorem dX12_canOn_44 : decode cX12_canOn 44 = .ok (.iload_n 1, 1) := by decide +kernel
theorem dX12_canOn_45 : decode cX12_canOn 45 = .ok (.invokestatic 185, 3) := by decide +kernel
theorem dX12_canOn_48 : decode cX12_canOn 48 = .ok (.iastore, 1) := by decide +kernel
theorem dX12_canOn_49 : decode cX12_canOn 49 = .ok (.aload_n 0, 1) := by decide +kernel
theorem dX12_canOn_50 : decode cX12_canOn 50 = .ok (.getfield 18, 3) := by decide +kernel
theorem dX12_canOn_53 : decode cX12_canOn 53 = .ok (.iconst 3, 1) := by decide +kernel
theorem dX12_canOn_54 : decode cX12_canOn 54 = .ok (.iload_n 1, 1) := by decide +kernel
theorem dX12_canOn_55 : decode cX12_canOn 55 = .ok (.iload_n 2, 1) := by decide +kernel
theorem dX12_canOn_56 : decode cX12_canOn 56 = .ok (.invokestatic 172, 3) := by decide +kernel
theorem dX12_canOn_59 : decode cX12_canOn 59 = .ok (.iastore, 1) := by decide +kernel
theorem dX12_canOn_60 : decode cX12_canOn 60 = .ok (.aload_n 0, 1) := by decide +kernel
theorem dX12_canOn_61 : decode cX12_canOn 61 = .ok (.getfield 18, 3) := by decide +kernel
theorem dX12_canOn_64 : decode cX12_canOn 64 = .ok (.iconst 4, 1) := by decide +kernel
theorem dX12_canOn_65 : decode cX12_canOn 65 = .ok (.aload_n 0, 1) := by decide +kernel
theorem dX12_canOn_66 : decode cX12_canOn 66 = .ok (.getfield 176, 3) := by decide +kernel
theorem dX12_canOn_69 : decode cX12_canOn 69 = .ok (.aload_n 0, 1) := by decide +kernel
theorem dX12_canOn_70 : decode cX12_canOn 70 = .ok (.getfield 179, 3) := by decide +kernel
theorem dX12_canOn_73 : decode cX12_canOn 73 = .ok (.iadd, 1) := by decide +kernel
theorem dX12_canOn_74 : decode cX12_canOn 74 = .ok (.iload_n 1, 1) := by decide +kernel
theorem dX12_canOn_75 : decode cX12_canOn 75 = .ok (.invokestatic 185, 3) := by decide +kernel
theorem dX12_canOn_78 : decode cX12_canOn 78 = .ok (.isub, 1) := by decide +kernel
theorem dX12_canOn_79 : decode cX12_canOn 79 = .ok (.iconst 1, 1) := by decide +kernel
theorem dX12_canOn_80 : decode cX12_canOn 80 = .ok (.isub, 1) := by decide +kernel
theorem dX12_canOn_81 : decode cX12_canOn 81 = .ok (.iastore, 1) := by decide +kernel
theorem dX12_canOn_82 : decode cX12_canOn 82 = .ok (.aload_n 0, 1) := by decide +kernel
theorem dX12_canOn_83 : decode cX12_canOn 83 = .ok (.getfield 9, 3) := by decide +kernel
theorem dX12_canOn_86 : decode cX12_canOn 86 = .ok (.sipush 187, 3) := by decide +kernel
theorem dX12_canOn_89 : decode cX12_canOn 89 = .ok (.aload_n 0, 1) := by decide +kernel
theorem dX12_canOn_90 : decode cX12_canOn 90 = .ok (.getfield 9, 3) := by decide +kernel
theorem dX12_canOn_93 : decode cX12_canOn 93 = .ok (.iconst 4, 1) := by decide +kernel
theorem dX12_canOn_94 : decode cX12_canOn 94 = .ok (.iaload, 1) := by decide +kernel
theorem dX12_canOn_95 : decode cX12_canOn 95 = .ok (.iadd, 1) := by decide +kernel
theorem dX12_canOn_96 : decode cX12_canOn 96 = .ok (.iaload, 1) := by decide +kernel
theorem dX12_canOn_97 : decode cX12_canOn 97 = .ok (.istore 4, 2) := by decide +kernel
theorem dX12_canOn_99 : decode cX12_canOn 99 = .ok (.sipush 192, 3) := by decide +kernel
theorem dX12_canOn_102 : decode cX12_canOn 102 = .ok (.sipush 140, 3) := by decide +kernel
theorem dX12_canOn_105 : decode cX12_canOn 105 = .ok (.aload_n 0, 1) := by decide +kernel
theorem dX12_canOn_106 : decode cX12_canOn 106 = .ok (.getfield 9, 3) := by decide +kernel
theorem dX12_canOn_109 : decode cX12_canOn 109 = .ok (.iconst 4, 1) := by decide +kernel
theorem dX12_canOn_110 : decode cX12_canOn 110 = .ok (.iaload, 1) := by decide +kernel
theorem dX12_canOn_111 : decode cX12_canOn 111 = .ok (.imul, 1) := by decide +kernel
theorem dX12_canOn_112 : decode cX12_canOn 112 = .ok (.iadd, 1) := by decide +kernel
theorem dX12_canOn_113 : decode cX12_canOn 113 = .ok (.istore 5, 2) := by decide +kernel
theorem dX12_canOn_115 : decode cX12_canOn 115 = .ok (.iconst 0, 1) := by decide +kernel
theorem dX12_canOn_116 : decode cX12_canOn 116 = .ok (.istore 6, 2) := by decide +kernel
theorem dX12_canOn_118 : decode cX12_canOn 118 = .ok (.iconst 0, 1) := by decide +kernel
theorem dX12_canOn_119 : decode cX12_canOn 119 = .ok (.istore 7, 2) := by decide +kernel
theorem dX12_canOn_121 : decode cX12_canOn 121 = .ok (.iload 5, 2) := by decide +kernel
theorem dX12_canOn_123 : decode cX12_canOn 123 = .ok (.istore 8, 2) := by decide +kernel
theorem dX12_canOn_125 : decode cX12_canOn 125 = .ok (.iload 8, 2) := by decide +kernel
theorem dX12_canOn_127 : decode cX12_canOn 127 = .ok (.iload 5, 2) := by decide +kernel
theorem dX12_canOn_129 : decode cX12_canOn 129 = .ok (.iload 4, 2) := by decide +kernel
theorem dX12_canOn_131 : decode cX12_canOn 131 = .ok (.iadd, 1) := by decide +kernel
theorem dX12_canOn_132 : decode cX12_canOn 132 = .ok (.if_icmp .ge 271, 3) := by decide +kernel
theorem dX12_canOn_135 : decode cX12_canOn 135 = .ok (.aload_n 0, 1) := by decide +kernel
theorem dX12_canOn_136 : decode cX12_canOn 136 = .ok (.getfield 9, 3) := by decide +kernel
theorem dX12_canOn_139 : decode cX12_canOn 139 = .ok (.iload 8, 2) := by decide +kernel
theorem dX12_canOn_141 : decode cX12_canOn 141 = .ok (.iaload, 1) := by decide +kernel
theorem dX12_canOn_142 : decode cX12_canOn 142 = .ok (.istore 9, 2) := by decide +kernel
theorem dX12_canOn_144 : decode cX12_canOn 144 = .ok (.iload 9, 2) := by decide +kernel
theorem dX12_canOn_146 : decode cX12_canOn 146 = .ok (.ifCond .lt 97, 3) := by decide +kernel
theorem dX12_canOn_149 : decode cX12_canOn 149 = .ok (.aload_n 0, 1) := by decide +kernel
theorem dX12_canOn_150 : decode cX12_canOn 150 = .ok (.getfield 18, 3) := by decide +kernel
theorem dX12_canOn_153 : decode cX12_canOn 153 = .ok (.iload 9, 2) := by decide +kernel
theorem dX12_canOn_155 : decode cX12_canOn 155 = .ok (.bipush 8, 2) := by decide +kernel
theorem dX12_canOn_157 : decode cX12_canOn 157 = .ok (.irem, 1) := by decide +kernel
theorem dX12_canOn_158 : decode cX12_canOn 158 = .ok (.iaload, 1) := by decide +kernel
theorem dX12_canOn_159 : decode cX12_canOn 159 = .ok (.istore 10, 2) := by decide +kernel
theorem dX12_canOn_161 : decode cX12_canOn 161 = .ok (.iload 9, 2) := by decide +kernel
theorem dX12_canOn_163 : decode cX12_canOn 163 = .ok (.bipush 8, 2) := by decide +kernel
theorem dX12_canOn_165 : decode cX12_canOn 165 = .ok (.idiv, 1) := by decide +kernel
theorem dX12_canOn_166 : decode cX12_canOn 166 = .ok (.iconst 4, 1) := by decide +kernel
theorem dX12_canOn_167 : decode cX12_canOn 167 = .ok (.irem, 1) := by decide +kernel
theorem dX12_canOn_168 : decode cX12_canOn 168 = .ok (.istore 11, 2) := by decide +kernel
theorem dX12_canOn_170 : decode cX12_canOn 170 = .ok (.iload 9, 2) := by decide +kernel
theorem dX12_canOn_172 : decode cX12_canOn 172 = .ok (.bipush 32, 2) := by decide +kernel
theorem dX12_canOn_174 : decode cX12_canOn 174 = .ok (.idiv, 1) := by decide +kernel
theorem dX12_canOn_175 : decode cX12_canOn 175 = .ok (.istore 12, 2) := by decide +kernel
theorem dX12_canOn_177 : decode cX12_canOn 177 = .ok (.aload_n 0, 1) := by decide +kernel
theorem dX12_canOn_178 : decode cX12_canOn 178 = .ok (.getfield 21, 3) := by decide +kernel
theorem dX12_canOn_181 : decode cX12_canOn 181 = .ok (.iload 6, 2) := by decide +kernel
theorem dX12_canOn_183 : decode cX12_canOn 183 = .ok (.iload 11, 2) := by decide +kernel
theorem dX12_canOn_185 : decode cX12_canOn 185 = .ok (.ifCond .ne 18, 3) := by decide +kernel
theorem dX12_canOn_188 : decode cX12_canOn 188 = .ok (.iload 10, 2) := by decide +kernel
theorem dX12_canOn_190 : decode cX12_canOn 190 = .ok (.iload 12, 2) := by decide +kernel
theorem dX12_canOn_192 : decode cX12_canOn 192 = .ok (.if_icmp .ge 7, 3) := by decide +kernel
theorem dX12_canOn_195 : decode cX12_canOn 195 = .ok (.iconst 1, 1) := by decide +kernel
theorem dX12_canOn_196 : decode cX12_canOn 196 = .ok (.goto 40, 3) := by decide +kernel
theorem dX12_canOn_199 : decode cX12_canOn 199 = .ok (.iconst 0, 1) := by decide +kernel
theorem dX12_canOn_200 : decode cX12_canOn 200 = .ok (.goto 36, 3) := by decide +kernel
theorem dX12_canOn_203 : decode cX12_canOn 203 = .ok (.iload 11, 2) := by decide +kernel
theorem dX12_canOn_205 : decode cX12_canOn 205 = .ok (.iconst 1, 1) := by decide +kernel
theorem dX12_canOn_206 : decode cX12_canOn 206 = .ok (.if_icmp .ne 18, 3) := by decide +kernel
theorem dX12_canOn_209 : decode cX12_canOn 209 = .ok (.iload 10, 2) := by decide +kernel
theorem dX12_canOn_211 : decode cX12_canOn 211 = .ok (.iload 12, 2) := by decide +kernel
theorem dX12_canOn_213 : decode cX12_canOn 213 = .ok (.if_icmp .ne 7, 3) := by decide +kernel
theorem dX12_canOn_216 : decode cX12_canOn 216 = .ok (.iconst 1, 1) := by decide +kernel
theorem dX12_canOn_217 : decode cX12_canOn 217 = .ok (.goto 19, 3) := by decide +kernel
theorem dX12_canOn_220 : decode cX12_canOn 220 = .ok (.iconst 0, 1) := by decide +kernel
theorem dX12_canOn_221 : decode cX12_canOn 221 = .ok (.goto 15, 3) := by decide +kernel
theorem dX12_canOn_224 : decode cX12_canOn 224 = .ok (.iload 10, 2) := by decide +kernel
theorem dX12_canOn_226 : decode cX12_canOn 226 = .ok (.iload 12, 2) := by decide +kernel
theorem dX12_canOn_228 : decode cX12_canOn 228 = .ok (.if_icmp .le 7, 3) := by decide +kernel
theorem dX12_canOn_231 : decode cX12_canOn 231 = .ok (.iconst 1, 1) := by decide +kernel
theorem dX12_canOn_232 : decode cX12_canOn 232 = .ok (.goto 4, 3) := by decide +kernel
theorem dX12_canOn_235 : decode cX12_canOn 235 = .ok (.iconst 0, 1) := by decide +kernel
theorem dX12_canOn_236 : decode cX12_canOn 236 = .ok (.bastore, 1) := by decide +kernel
theorem dX12_canOn_237 : decode cX12_canOn 237 = .ok (.iinc 6 1, 3) := by decide +kernel
theorem dX12_canOn_240 : decode cX12_canOn 240 = .ok (.goto 157, 3) := by decide +kernel
theorem dX12_canOn_243 : decode cX12_canOn 243 = .ok (.iload 9, 2) := by decide +kernel
theorem dX12_canOn_245 : decode cX12_canOn 245 = .ok (.iconst (-1), 1) := by decide +kernel
theorem dX12_canOn_246 : decode cX12_canOn 246 = .ok (.if_icmp .ne 32, 3) := by decide +kernel
theorem dX12_canOn_249 : decode cX12_canOn 249 = .ok (.aload_n 0, 1) := by decide +kernel
theorem dX12_canOn_250 : decode cX12_canOn 250 = .ok (.getfield 21, 3) := by decide +kernel
theorem dX12_canOn_253 : decode cX12_canOn 253 = .ok (.iload 6, 2) := by decide +kernel
theorem dX12_canOn_255 : decode cX12_canOn 255 = .ok (.iconst 1, 1) := by decide +kernel
theorem dX12_canOn_256 : decode cX12_canOn 256 = .ok (.isub, 1) := by decide +kernel
theorem dX12_canOn_257 : decode cX12_canOn 257 = .ok (.aload_n 0, 1) := by decide +kernel
theorem dX12_canOn_258 : decode cX12_canOn 258 = .ok (.getfield 21, 3) := by decide +kernel
theorem dX12_canOn_261 : decode cX12_canOn 261 = .ok (.iload 6, 2) := by decide +kernel
theorem dX12_canOn_263 : decode cX12_canOn 263 = .ok (.iconst 1, 1) := by decide +kernel
theorem dX12_canOn_264 : decode cX12_canOn 264 = .ok (.isub, 1) := by decide +kernel
theorem dX12_canOn_265 : decode cX12_canOn 265 = .ok (.baload, 1) := by decide +kernel
theorem dX12_canOn_266 : decode cX12_canOn 266 = .ok (.ifCond .ne 7, 3) := by decide +kernel
theorem dX12_canOn_269 : decode cX12_canOn 269 = .ok (.iconst 1, 1) := by decide +kernel
theorem dX12_canOn_270 : decode cX12_canOn 270 = .ok (.goto 4, 3) := by decide +kernel
theorem dX12_canOn_273 : decode cX12_canOn 273 = .ok (.iconst 0, 1) := by decide +kernel
theorem dX12_canOn_274 : decode cX12_canOn 274 = .ok (.bastore, 1) := by decide +kernel
theorem dX12_canOn_275 : decode cX12_canOn 275 = .ok (.goto 122, 3) := by decide +kernel
theorem dX12_canOn_278 : decode cX12_canOn 278 = .ok (.iload 9, 2) := by decide +kernel
theorem dX12_canOn_280 : decode cX12_canOn 280 = .ok (.bipush (-10), 2) := by decide +kernel
theorem dX12_canOn_282 : decode cX12_canOn 282 = .ok (.if_icmp .le 82, 3) := by decide +kernel
theorem dX12_canOn_285 : decode cX12_canOn 285 = .ok (.iinc 6 (-1), 3) := by decide +kernel
theorem dX12_canOn_288 : decode cX12_canOn 288 = .ok (.aload_n 0, 1) := by decide +kernel
theorem dX12_canOn_289 : decode cX12_canOn 289 = .ok (.getfield 21, 3) := by decide +kernel
theorem dX12_canOn_292 : decode cX12_canOn 292 = .ok (.iload 6, 2) := by decide +kernel
theorem dX12_canOn_294 : decode cX12_canOn 294 = .ok (.iconst 1, 1) := by decide +kernel
theorem dX12_canOn_295 : decode cX12_canOn 295 = .ok (.isub, 1) := by decide +kernel
theorem dX12_canOn_296 : decode cX12_canOn 296 = .ok (.iload 9, 2) := by decide +kernel
theorem dX12_canOn_298 : decode cX12_canOn 298 = .ok (.bipush (-2), 2) := by decide +kernel
theorem dX12_canOn_300 : decode cX12_canOn 300 = .ok (.if_icmp .ne 33, 3) := by decide +kernel
theorem dX12_canOn_303 : decode cX12_canOn 303 = .ok (.aload_n 0, 1) := by decide +kernel
theorem dX12_canOn_304 : decode cX12_canOn 304 = .ok (.getfield 21, 3) := by decide +kernel
theorem dX12_canOn_307 : decode cX12_canOn 307 = .ok (.iload 6, 2) := by decide +kernel
theorem dX12_canOn_309 : decode cX12_canOn 309 = .ok (.iconst 1, 1) := by decide +kernel
theorem dX12_canOn_310 : decode cX12_canOn 310 = .ok (.isub, 1) := by decide +kernel
theorem dX12_canOn_311 : decode cX12_canOn 311 = .ok (.baload, 1) := by decide +kernel
theorem dX12_canOn_312 : decode cX12_canOn 312 = .ok (.ifCond .eq 17, 3) := by decide +kernel
theorem dX12_canOn_315 : decode cX12_canOn 315 = .ok (.aload_n 0, 1) := by decide +kernel
theorem dX12_canOn_316 : decode cX12_canOn 316 = .ok (.getfield 21, 3) := by decide +kernel
theorem dX12_canOn_319 : decode cX12_canOn 319 = .ok (.iload 6, 2) := by decide +kernel
theorem dX12_canOn_321 : decode cX12_canOn 321 = .ok (.baload, 1) := by decide +kernel
theorem dX12_canOn_322 : decode cX12_canOn 322 = .ok (.ifCond .eq 7, 3) := by decide +kernel
theorem dX12_canOn_325 : decode cX12_canOn 325 = .ok (.iconst 1, 1) := by decide +kernel
theorem dX12_canOn_326 : decode cX12_canOn 326 = .ok (.goto 34, 3) := by decide +kernel
theorem dX12_canOn_329 : decode cX12_canOn 329 = .ok (.iconst 0, 1) := by decide +kernel
theorem dX12_canOn_330 : decode cX12_canOn 330 = .ok (.goto 30, 3) := by decide +kernel
theorem dX12_canOn_333 : decode cX12_canOn 333 = .ok (.aload_n 0, 1) := by decide +kernel
theorem dX12_canOn_334 : decode cX12_canOn 334 = .ok (.getfield 21, 3) := by decide +kernel
theorem dX12_canOn_337 : decode cX12_canOn 337 = .ok (.iload 6, 2) := by decide +kernel
theorem dX12_canOn_339 : decode cX12_canOn 339 = .ok (.iconst 1, 1) := by decide +kernel
theorem dX12_canOn_340 : decode cX12_canOn 340 = .ok (.isub, 1) := by decide +kernel
theorem dX12_canOn_341 : decode cX12_canOn 341 = .ok (.baload, 1) := by decide +kernel
theorem dX12_canOn_342 : decode cX12_canOn 342 = .ok (.ifCond .ne 13, 3) := by decide +kernel
theorem dX12_canOn_345 : decode cX12_canOn 345 = .ok (.aload_n 0, 1) := by decide +kernel
theorem dX12_canOn_346 : decode cX12_canOn 346 = .ok (.getfield 21, 3) := by decide +kernel
theorem dX12_canOn_349 : decode cX12_canOn 349 = .ok (.iload 6, 2) := by decide +kernel
theorem dX12_canOn_351 : decode cX12_canOn 351 = .ok (.baload, 1) := by decide +kernel
theorem dX12_canOn_352 : decode cX12_canOn 352 = .ok (.ifCond .eq 7, 3) := by decide +kernel
theorem dX12_canOn_355 : decode cX12_canOn 355 = .ok (.iconst 1, 1) := by decide +kernel
theorem dX12_canOn_356 : decode cX12_canOn 356 = .ok (.goto 4, 3) := by decide +kernel
theorem dX12_canOn_359 : decode cX12_canOn 359 = .ok (.iconst 0, 1) := by decide +kernel
theorem dX12_canOn_360 : decode cX12_canOn 360 = .ok (.bastore, 1) := by decide +kernel
theorem dX12_canOn_361 : decode cX12_canOn 361 = .ok (.goto 36, 3) := by decide +kernel
theorem dX12_canOn_364 : decode cX12_canOn 364 = .ok (.iconst 0, 1) := by decide +kernel
theorem dX12_canOn_365 : decode cX12_canOn 365 = .ok (.istore 6, 2) := by decide +kernel
theorem dX12_canOn_367 : decode cX12_canOn 367 = .ok (.iload 7, 2) := by decide +kernel
theorem dX12_canOn_369 : decode cX12_canOn 369 = .ok (.ifCond .ne 21, 3) := by decide +kernel
theorem dX12_canOn_372 : decode cX12_canOn 372 = .ok (.bipush (-10), 2) := by decide +kernel
theorem dX12_canOn_374 : decode cX12_canOn 374 = .ok (.iload 9, 2) := by decide +kernel
theorem dX12_canOn_376 : decode cX12_canOn 376 = .ok (.isub, 1) := by decide +kernel
theorem dX12_canOn_377 : decode cX12_canOn 377 = .ok (.iload_n 3, 1) := by decide +kernel
theorem dX12_canOn_378 : decode cX12_canOn 378 = .ok (.if_icmp .ne 16, 3) := by decide +kernel
theorem dX12_canOn_381 : decode cX12_canOn 381 = .ok (.aload_n 0, 1) := by decide +kernel
theorem dX12_canOn_382 : decode cX12_canOn 382 = .ok (.getfield 21, 3) := by decide +kernel
theorem dX12_canOn_385 : decode cX12_canOn 385 = .ok (.iconst 0, 1) := by decide +kernel
theorem dX12_canOn_386 : decode cX12_canOn 386 = .ok (.baload, 1) := by decide +kernel
theorem dX12_canOn_387 : decode cX12_canOn 387 = .ok (.ifCond .eq 7, 3) := by decide +kernel
theorem dX12_canOn_390 : decode cX12_canOn 390 = .ok (.iconst 1, 1) := by decide +kernel
theorem dX12_canOn_391 : decode cX12_canOn 391 = .ok (.goto 4, 3) := by decide +kernel
theorem dX12_canOn_394 : decode cX12_canOn 394 = .ok (.iconst 0, 1) := by decide +kernel
theorem dX12_canOn_395 : decode cX12_canOn 395 = .ok (.istore 7, 2) := by decide +kernel
theorem dX12_canOn_397 : decode cX12_canOn 397 = .ok (.iinc 8 1, 3) := by decide +kernel
theorem dX12_canOn_400 : decode cX12_canOn 400 = .ok (.goto (-275), 3) := by decide +kernel
theorem dX12_canOn_403 : decode cX12_canOn 403 = .ok (.iload 7, 2) := by decide +kernel
theorem dX12_canOn_405 : decode cX12_canOn 405 = .ok (.ireturn, 1) := by decide +kernel
theorem dX12_pays_0 : decode cX12_pays 0 = .ok (.iload_n 2, 1) := by decide +kernel
theorem dX12_pays_1 : decode cX12_pays 1 = .ok (.iconst (-1), 1) := by decide +kernel
theorem dX12_pays_2 : decode cX12_pays 2 = .ok (.if_icmp .eq 20, 3) := by decide +kernel
theorem dX12_pays_5 : decode cX12_pays 5 = .ok (.iload_n 1, 1) := by decide +kernel
theorem dX12_pays_6 : decode cX12_pays 6 = .ok (.iload_n 2, 1) := by decide +kernel
theorem dX12_pays_7 : decode cX12_pays 7 = .ok (.invokestatic 182, 3) := by decide +kernel
theorem dX12_pays_10 : decode cX12_pays 10 = .ok (.iconst 1, 1) := by decide +kernel
theorem dX12_pays_11 : decode cX12_pays 11 = .ok (.if_icmp .ne 11, 3) := by decide +kernel
theorem dX12_pays_14 : decode cX12_pays 14 = .ok (.aload_n 0, 1) := by decide +kernel
theorem dX12_pays_15 : decode cX12_pays 15 = .ok (.iload_n 2, 1) := by decide +kernel
theorem dX12_pays_16 : decode cX12_pays 16 = .ok (.invokevirtual 161, 3) := by decide +kernel
theorem dX12_pays_19 : decode cX12_pays 19 = .ok (.goto 4, 3) := by decide +kernel
theorem dX12_pays_22 : decode cX12_pays 22 = .ok (.iconst 0, 1) := by decide +kernel
theorem dX12_pays_23 : decode cX12_pays 23 = .ok (.ireturn, 1) := by decide +kernel
theorem dX12_ordersWith_0 : decode cX12_ordersWith 0 = .ok (.iload_n 0, 1) := by decide +kernel
theorem dX12_ordersWith_1 : decode cX12_ordersWith 1 = .ok (.iload_n 1, 1) := by decide +kernel
theorem dX12_ordersWith_2 : decode cX12_ordersWith 2 = .ok (.iadd, 1) := by decide +kernel
theorem dX12_ordersWith_3 : decode cX12_ordersWith 3 = .ok (.iload_n 2, 1) := by decide +kernel
theorem dX12_ordersWith_4 : decode cX12_ordersWith 4 = .ok (.iadd, 1) := by decide +kernel
theorem dX12_ordersWith_5 : decode cX12_ordersWith 5 = .ok (.iload_n 0, 1) := by decide +kernel
theorem dX12_ordersWith_6 : decode cX12_ordersWith 6 = .ok (.invokestatic 194, 3) := by decide +kernel
theorem dX12_ordersWith_9 : decode cX12_ordersWith 9 = .ok (.iload_n 1, 1) := by decide +kernel
theorem dX12_ordersWith_10 : decode cX12_ordersWith 10 = .ok (.iload_n 2, 1) := by decide +kernel
theorem dX12_ordersWith_11 : decode cX12_ordersWith 11 = .ok (.iadd, 1) := by decide +kernel
theorem dX12_ordersWith_12 : decode cX12_ordersWith 12 = .ok (.iload_n 1, 1) := by decide +kernel
theorem dX12_ordersWith_13 : decode cX12_ordersWith 13 = .ok (.invokestatic 194, 3) := by decide +kernel
theorem dX12_ordersWith_16 : decode cX12_ordersWith 16 = .ok (.lmul, 1) := by decide +kernel
theorem dX12_ordersWith_17 : decode cX12_ordersWith 17 = .ok (.lreturn, 1) := by decide +kernel
theorem dX12_ordersOf_0 : decode cX12_ordersOf 0 = .ok (.iload_n 0, 1) := by decide +kernel
theorem dX12_ordersOf_1 : decode cX12_ordersOf 1 = .ok (.iconst 0, 1) := by decide +kernel
theorem dX12_ordersOf_2 : decode cX12_ordersOf 2 = .ok (.invokestatic 172, 3) := by decide +kernel
theorem dX12_ordersOf_5 : decode cX12_ordersOf 5 = .ok (.iload_n 0, 1) := by decide +kernel
theorem dX12_ordersOf_6 : decode cX12_ordersOf 6 = .ok (.iconst 1, 1) := by decide +kernel
theorem dX12_ordersOf_7 : decode cX12_ordersOf 7 = .ok (.invokestatic 172, 3) := by decide +kernel
theorem dX12_ordersOf_10 : decode cX12_ordersOf 10 = .ok (.iload_n 0, 1) := by decide +kernel
theorem dX12_ordersOf_11 : decode cX12_ordersOf 11 = .ok (.iconst 2, 1) := by decide +kernel
theorem dX12_ordersOf_12 : decode cX12_ordersOf 12 = .ok (.invokestatic 172, 3) := by decide +kernel
theorem dX12_ordersOf_15 : decode cX12_ordersOf 15 = .ok (.invokestatic 198, 3) := by decide +kernel
theorem dX12_ordersOf_18 : decode cX12_ordersOf 18 = .ok (.lreturn, 1) := by decide +kernel
theorem dX12_chooses_0 : decode cX12_chooses 0 = .ok (.iload_n 1, 1) := by decide +kernel
theorem dX12_chooses_1 : decode cX12_chooses 1 = .ok (.ifCond .lt 8, 3) := by decide +kernel
theorem dX12_chooses_4 : decode cX12_chooses 4 = .ok (.iload_n 1, 1) := by decide +kernel
theorem dX12_chooses_5 : decode cX12_chooses 5 = .ok (.iload_n 0, 1) := by decide +kernel
theorem dX12_chooses_6 : decode cX12_chooses 6 = .ok (.if_icmp .le 5, 3) := by decide +kernel
theorem dX12_chooses_9 : decode cX12_chooses 9 = .ok (.lconst 0, 1) := by decide +kernel
theorem dX12_chooses_10 : decode cX12_chooses 10 = .ok (.lreturn, 1) := by decide +kernel
theorem dX12_chooses_11 : decode cX12_chooses 11 = .ok (.lconst 1, 1) := by decide +kernel
theorem dX12_chooses_12 : decode cX12_chooses 12 = .ok (.lstore_n 2, 1) := by decide +kernel
theorem dX12_chooses_13 : decode cX12_chooses 13 = .ok (.iconst 1, 1) := by decide +kernel
theorem dX12_chooses_14 : decode cX12_chooses 14 = .ok (.istore 4, 2) := by decide +kernel
theorem dX12_chooses_16 : decode cX12_chooses 16 = .ok (.iload 4, 2) := by decide +kernel
theorem dX12_chooses_18 : decode cX12_chooses 18 = .ok (.iload_n 1, 1) := by decide +kernel
theorem dX12_chooses_19 : decode cX12_chooses 19 = .ok (.if_icmp .gt 23, 3) := by decide +kernel
theorem dX12_chooses_22 : decode cX12_chooses 22 = .ok (.lload_n 2, 1) := by decide +kernel
theorem dX12_chooses_23 : decode cX12_chooses 23 = .ok (.iload_n 0, 1) := by decide +kernel
theorem dX12_chooses_24 : decode cX12_chooses 24 = .ok (.iload_n 1, 1) := by decide +kernel
theorem dX12_chooses_25 : decode cX12_chooses 25 = .ok (.isub, 1) := by decide +kernel
theorem dX12_chooses_26 : decode cX12_chooses 26 = .ok (.iload 4, 2) := by decide +kernel
theorem dX12_chooses_28 : decode cX12_chooses 28 = .ok (.iadd, 1) := by decide +kernel
theorem dX12_chooses_29 : decode cX12_chooses 29 = .ok (.i2l, 1) := by decide +kernel
theorem dX12_chooses_30 : decode cX12_chooses 30 = .ok (.lmul, 1) := by decide +kernel
theorem dX12_chooses_31 : decode cX12_chooses 31 = .ok (.iload 4, 2) := by decide +kernel
theorem dX12_chooses_33 : decode cX12_chooses 33 = .ok (.i2l, 1) := by decide +kernel
theorem dX12_chooses_34 : decode cX12_chooses 34 = .ok (.ldiv, 1) := by decide +kernel
theorem dX12_chooses_35 : decode cX12_chooses 35 = .ok (.lstore_n 2, 1) := by decide +kernel
theorem dX12_chooses_36 : decode cX12_chooses 36 = .ok (.iinc 4 1, 3) := by decide +kernel
theorem dX12_chooses_39 : decode cX12_chooses 39 = .ok (.goto (-23), 3) := by decide +kernel
theorem dX12_chooses_42 : decode cX12_chooses 42 = .ok (.lload_n 2, 1) := by decide +kernel
theorem dX12_chooses_43 : decode cX12_chooses 43 = .ok (.lreturn, 1) := by decide +kernel
theorem dX12_bestOn_0 : decode cX12_bestOn 0 = .ok (.aload_n 0, 1) := by decide +kernel
theorem dX12_bestOn_1 : decode cX12_bestOn 1 = .ok (.iload_n 1, 1) := by decide +kernel
theorem dX12_bestOn_2 : decode cX12_bestOn 2 = .ok (.invokevirtual 202, 3) := by decide +kernel
theorem dX12_bestOn_5 : decode cX12_bestOn 5 = .ok (.lstore_n 3, 1) := by decide +kernel
theorem dX12_bestOn_6 : decode cX12_bestOn 6 = .ok (.iconst 3, 1) := by decide +kernel
theorem dX12_bestOn_7 : decode cX12_bestOn 7 = .ok (.istore 5, 2) := by decide +kernel
theorem dX12_bestOn_9 : decode cX12_bestOn 9 = .ok (.iconst 0, 1) := by decide +kernel
theorem dX12_bestOn_10 : decode cX12_bestOn 10 = .ok (.istore 6, 2) := by decide +kernel
theorem dX12_bestOn_12 : decode cX12_bestOn 12 = .ok (.iload 6, 2) := by decide +kernel
theorem dX12_bestOn_14 : decode cX12_bestOn 14 = .ok (.iconst 3, 1) := by decide +kernel
theorem dX12_bestOn_15 : decode cX12_bestOn 15 = .ok (.if_icmp .ge 76, 3) := by decide +kernel
theorem dX12_bestOn_18 : decode cX12_bestOn 18 = .ok (.aload_n 0, 1) := by decide +kernel
theorem dX12_bestOn_19 : decode cX12_bestOn 19 = .ok (.iload_n 1, 1) := by decide +kernel
theorem dX12_bestOn_20 : decode cX12_bestOn 20 = .ok (.iload_n 2, 1) := by decide +kernel
theorem dX12_bestOn_21 : decode cX12_bestOn 21 = .ok (.iload 6, 2) := by decide +kernel
theorem dX12_bestOn_23 : decode cX12_bestOn 23 = .ok (.invokevirtual 206, 3) := by decide +kernel
theorem dX12_bestOn_26 : decode cX12_bestOn 26 = .ok (.ifCond .eq 59, 3) := by decide +kernel
theorem dX12_bestOn_29 : decode cX12_bestOn 29 = .ok (.iload_n 1, 1) := by decide +kernel
theorem dX12_bestOn_30 : decode cX12_bestOn 30 = .ok (.invokestatic 209, 3) := by decide +kernel
theorem dX12_bestOn_33 : decode cX12_bestOn 33 = .ok (.aload_n 0, 1) := by decide +kernel
theorem dX12_bestOn_34 : decode cX12_bestOn 34 = .ok (.iload_n 1, 1) := by decide +kernel
theorem dX12_bestOn_35 : decode cX12_bestOn 35 = .ok (.iload 6, 2) := by decide +kernel
theorem dX12_bestOn_37 : decode cX12_bestOn 37 = .ok (.invokevirtual 212, 3) := by decide +kernel
theorem dX12_bestOn_40 : decode cX12_bestOn 40 = .ok (.i2l, 1) := by decide +kernel
theorem dX12_bestOn_41 : decode cX12_bestOn 41 = .ok (.lmul, 1) := by decide +kernel
theorem dX12_bestOn_42 : decode cX12_bestOn 42 = .ok (.aload_n 0, 1) := by decide +kernel
theorem dX12_bestOn_43 : decode cX12_bestOn 43 = .ok (.iload_n 1, 1) := by decide +kernel
theorem dX12_bestOn_44 : decode cX12_bestOn 44 = .ok (.iload 6, 2) := by decide +kernel
theorem dX12_bestOn_46 : decode cX12_bestOn 46 = .ok (.invokestatic 215, 3) := by decide +kernel
theorem dX12_bestOn_49 : decode cX12_bestOn 49 = .ok (.invokevirtual 202, 3) := by decide +kernel
theorem dX12_bestOn_52 : decode cX12_bestOn 52 = .ok (.ladd, 1) := by decide +kernel
theorem dX12_bestOn_53 : decode cX12_bestOn 53 = .ok (.lstore 7, 2) := by decide +kernel
theorem dX12_bestOn_55 : decode cX12_bestOn 55 = .ok (.lload 7, 2) := by decide +kernel
theorem dX12_bestOn_57 : decode cX12_bestOn 57 = .ok (.lload_n 3, 1) := by decide +kernel
theorem dX12_bestOn_58 : decode cX12_bestOn 58 = .ok (.lcmp, 1) := by decide +kernel
theorem dX12_bestOn_59 : decode cX12_bestOn 59 = .ok (.ifCond .le 8, 3) := by decide +kernel
theorem dX12_bestOn_62 : decode cX12_bestOn 62 = .ok (.iload 6, 2) := by decide +kernel
theorem dX12_bestOn_64 : decode cX12_bestOn 64 = .ok (.goto 5, 3) := by decide +kernel
theorem dX12_bestOn_67 : decode cX12_bestOn 67 = .ok (.iload 5, 2) := by decide +kernel
theorem dX12_bestOn_69 : decode cX12_bestOn 69 = .ok (.istore 5, 2) := by decide +kernel
theorem dX12_bestOn_71 : decode cX12_bestOn 71 = .ok (.lload 7, 2) := by decide +kernel
theorem dX12_bestOn_73 : decode cX12_bestOn 73 = .ok (.lload_n 3, 1) := by decide +kernel
theorem dX12_bestOn_74 : decode cX12_bestOn 74 = .ok (.lcmp, 1) := by decide +kernel
theorem dX12_bestOn_75 : decode cX12_bestOn 75 = .ok (.ifCond .le 8, 3) := by decide +kernel
theorem dX12_bestOn_78 : decode cX12_bestOn 78 = .ok (.lload 7, 2) := by decide +kernel
theorem dX12_bestOn_80 : decode cX12_bestOn 80 = .ok (.goto 4, 3) := by decide +kernel
theorem dX12_bestOn_83 : decode cX12_bestOn 83 = .ok (.lload_n 3, 1) := by decide +kernel
theorem dX12_bestOn_84 : decode cX12_bestOn 84 = .ok (.lstore_n 3, 1) := by decide +kernel
theorem dX12_bestOn_85 : decode cX12_bestOn 85 = .ok (.iinc 6 1, 3) := by decide +kernel
theorem dX12_bestOn_88 : decode cX12_bestOn 88 = .ok (.goto (-76), 3) := by decide +kernel
theorem dX12_bestOn_91 : decode cX12_bestOn 91 = .ok (.aload_n 0, 1) := by decide +kernel
theorem dX12_bestOn_92 : decode cX12_bestOn 92 = .ok (.getfield 35, 3) := by decide +kernel
theorem dX12_bestOn_95 : decode cX12_bestOn 95 = .ok (.iconst 3, 1) := by decide +kernel
theorem dX12_bestOn_96 : decode cX12_bestOn 96 = .ok (.iload_n 1, 1) := by decide +kernel
theorem dX12_bestOn_97 : decode cX12_bestOn 97 = .ok (.imul, 1) := by decide +kernel
theorem dX12_bestOn_98 : decode cX12_bestOn 98 = .ok (.iload_n 2, 1) := by decide +kernel
theorem dX12_bestOn_99 : decode cX12_bestOn 99 = .ok (.iadd, 1) := by decide +kernel
theorem dX12_bestOn_100 : decode cX12_bestOn 100 = .ok (.iload 5, 2) := by decide +kernel
theorem dX12_bestOn_102 : decode cX12_bestOn 102 = .ok (.iastore, 1) := by decide +kernel
theorem dX12_bestOn_103 : decode cX12_bestOn 103 = .ok (.lload_n 3, 1) := by decide +kernel
theorem dX12_bestOn_104 : decode cX12_bestOn 104 = .ok (.lreturn, 1) := by decide +kernel
theorem dX12_best_0 : decode cX12_best 0 = .ok (.aload_n 0, 1) := by decide +kernel
theorem dX12_best_1 : decode cX12_best 1 = .ok (.getfield 32, 3) := by decide +kernel
theorem dX12_best_4 : decode cX12_best 4 = .ok (.iload_n 1, 1) := by decide +kernel
theorem dX12_best_5 : decode cX12_best 5 = .ok (.iaload, 1) := by decide +kernel
theorem dX12_best_6 : decode cX12_best 6 = .ok (.aload_n 0, 1) := by decide +kernel
theorem dX12_best_7 : decode cX12_best 7 = .ok (.getfield 188, 3) := by decide +kernel
theorem dX12_best_10 : decode cX12_best 10 = .ok (.if_icmp .ne 10, 3) := by decide +kernel
theorem dX12_best_13 : decode cX12_best 13 = .ok (.aload_n 0, 1) := by decide +kernel
theorem dX12_best_14 : decode cX12_best 14 = .ok (.getfield 28, 3) := by decide +kernel
theorem dX12_best_17 : decode cX12_best 17 = .ok (.iload_n 1, 1) := by decide +kernel
theorem dX12_best_18 : decode cX12_best 18 = .ok (.laload, 1) := by decide +kernel
theorem dX12_best_19 : decode cX12_best 19 = .ok (.lreturn, 1) := by decide +kernel
theorem dX12_best_20 : decode cX12_best 20 = .ok (.lconst 0, 1) := by decide +kernel
theorem dX12_best_21 : decode cX12_best 21 = .ok (.lstore_n 2, 1) := by decide +kernel
theorem dX12_best_22 : decode cX12_best 22 = .ok (.iconst 0, 1) := by decide +kernel
theorem dX12_best_23 : decode cX12_best 23 = .ok (.istore 4, 2) := by decide +kernel
theorem dX12_best_25 : decode cX12_best 25 = .ok (.iload 4, 2) := by decide +kernel
theorem dX12_best_27 : decode cX12_best 27 = .ok (.iconst 3, 1) := by decide +kernel
theorem dX12_best_28 : decode cX12_best 28 = .ok (.if_icmp .ge 37, 3) := by decide +kernel
theorem dX12_best_31 : decode cX12_best 31 = .ok (.lload_n 2, 1) := by decide +kernel
theorem dX12_best_32 : decode cX12_best 32 = .ok (.iload_n 1, 1) := by decide +kernel
theorem dX12_best_33 : decode cX12_best 33 = .ok (.iload 4, 2) := by decide +kernel
theorem dX12_best_35 : decode cX12_best 35 = .ok (.invokestatic 172, 3) := by decide +kernel
theorem dX12_best_38 : decode cX12_best 38 = .ok (.ifCond .le 18, 3) := by decide +kernel
theorem dX12_best_41 : decode cX12_best 41 = .ok (.aload_n 0, 1) := by decide +kernel
theorem dX12_best_42 : decode cX12_best 42 = .ok (.iload_n 1, 1) := by decide +kernel
theorem dX12_best_43 : decode cX12_best 43 = .ok (.iload 4, 2) := by decide +kernel
theorem dX12_best_45 : decode cX12_best 45 = .ok (.invokestatic 218, 3) := by decide +kernel
theorem dX12_best_48 : decode cX12_best 48 = .ok (.iload 4, 2) := by decide +kernel
theorem dX12_best_50 : decode cX12_best 50 = .ok (.invokevirtual 221, 3) := by decide +kernel
theorem dX12_best_53 : decode cX12_best 53 = .ok (.goto 4, 3) := by decide +kernel
theorem dX12_best_56 : decode cX12_best 56 = .ok (.lconst 0, 1) := by decide +kernel
theorem dX12_best_57 : decode cX12_best 57 = .ok (.ladd, 1) := by decide +kernel
theorem dX12_best_58 : decode cX12_best 58 = .ok (.lstore_n 2, 1) := by decide +kernel
theorem dX12_best_59 : decode cX12_best 59 = .ok (.iinc 4 1, 3) := by decide +kernel
theorem dX12_best_62 : decode cX12_best 62 = .ok (.goto (-37), 3) := by decide +kernel
theorem dX12_best_65 : decode cX12_best 65 = .ok (.aload_n 0, 1) := by decide +kernel
theorem dX12_best_66 : decode cX12_best 66 = .ok (.getfield 32, 3) := by decide +kernel
theorem dX12_best_69 : decode cX12_best 69 = .ok (.iload_n 1, 1) := by decide +kernel
theorem dX12_best_70 : decode cX12_best 70 = .ok (.aload_n 0, 1) := by decide +kernel
theorem dX12_best_71 : decode cX12_best 71 = .ok (.getfield 188, 3) := by decide +kernel
theorem dX12_best_74 : decode cX12_best 74 = .ok (.iastore, 1) := by decide +kernel
theorem dX12_best_75 : decode cX12_best 75 = .ok (.aload_n 0, 1) := by decide +kernel
theorem dX12_best_76 : decode cX12_best 76 = .ok (.getfield 28, 3) := by decide +kernel
theorem dX12_best_79 : decode cX12_best 79 = .ok (.iload_n 1, 1) := by decide +kernel
theorem dX12_best_80 : decode cX12_best 80 = .ok (.lload_n 2, 1) := by decide +kernel
theorem dX12_best_81 : decode cX12_best 81 = .ok (.lastore, 1) := by decide +kernel
theorem dX12_best_82 : decode cX12_best 82 = .ok (.lload_n 2, 1) := by decide +kernel
theorem dX12_best_83 : decode cX12_best 83 = .ok (.lreturn, 1) := by decide +kernel
theorem dX12_looks_0 : decode cX12_looks 0 = .ok (.aload_n 0, 1) := by decide +kernel
theorem dX12_looks_1 : decode cX12_looks 1 = .ok (.dup, 1) := by decide +kernel
theorem dX12_looks_2 : decode cX12_looks 2 = .ok (.getfield 188, 3) := by decide +kernel
theorem dX12_looks_5 : decode cX12_looks 5 = .ok (.iconst 1, 1) := by decide +kernel
theorem dX12_looks_6 : decode cX12_looks 6 = .ok (.iadd, 1) := by decide +kernel
theorem dX12_looks_7 : decode cX12_looks 7 = .ok (.putfield 188, 3) := by decide +kernel
theorem dX12_looks_10 : decode cX12_looks 10 = .ok (.aload_n 0, 1) := by decide +kernel
theorem dX12_looks_11 : decode cX12_looks 11 = .ok (.invokevirtual 224, 3) := by decide +kernel
theorem dX12_looks_14 : decode cX12_looks 14 = .ok (.return_, 1) := by decide +kernel
theorem dX12_worker_0 : decode cX12_worker 0 = .ok (.iload_n 1, 1) := by decide +kernel
theorem dX12_worker_1 : decode cX12_worker 1 = .ok (.iconst 0, 1) := by decide +kernel
theorem dX12_worker_2 : decode cX12_worker 2 = .ok (.bipush 6, 2) := by decide +kernel
theorem dX12_worker_4 : decode cX12_worker 4 = .ok (.invokestatic 69, 3) := by decide +kernel
theorem dX12_worker_7 : decode cX12_worker 7 = .ok (.ifCond .ne 5, 3) := by decide +kernel
theorem dX12_worker_10 : decode cX12_worker 10 = .ok (.iconst (-1), 1) := by decide +kernel
theorem dX12_worker_11 : decode cX12_worker 11 = .ok (.ireturn, 1) := by decide +kernel
theorem dX12_worker_12 : decode cX12_worker 12 = .ok (.iload_n 2, 1) := by decide +kernel
theorem dX12_worker_13 : decode cX12_worker 13 = .ok (.iconst 0, 1) := by decide +kernel
theorem dX12_worker_14 : decode cX12_worker 14 = .ok (.bipush 9, 2) := by decide +kernel
theorem dX12_worker_16 : decode cX12_worker 16 = .ok (.invokestatic 69, 3) := by decide +kernel
theorem dX12_worker_19 : decode cX12_worker 19 = .ok (.ifCond .ne 6, 3) := by decide +kernel
theorem dX12_worker_22 : decode cX12_worker 22 = .ok (.bipush (-2), 2) := by decide +kernel
theorem dX12_worker_24 : decode cX12_worker 24 = .ok (.ireturn, 1) := by decide +kernel
theorem dX12_worker_25 : decode cX12_worker 25 = .ok (.aload_n 0, 1) := by decide +kernel
theorem dX12_worker_26 : decode cX12_worker 26 = .ok (.getfield 9, 3) := by decide +kernel
theorem dX12_worker_29 : decode cX12_worker 29 = .ok (.iconst 0, 1) := by decide +kernel
theorem dX12_worker_30 : decode cX12_worker 30 = .ok (.iaload, 1) := by decide +kernel
theorem dX12_worker_31 : decode cX12_worker 31 = .ok (.bipush 8, 2) := by decide +kernel
theorem dX12_worker_33 : decode cX12_worker 33 = .ok (.if_icmp .ne 6, 3) := by decide +kernel
theorem dX12_worker_36 : decode cX12_worker 36 = .ok (.bipush (-4), 2) := by decide +kernel
theorem dX12_worker_38 : decode cX12_worker 38 = .ok (.ireturn, 1) := by decide +kernel
theorem dX12_worker_39 : decode cX12_worker 39 = .ok (.aload_n 0, 1) := by decide +kernel
theorem dX12_worker_40 : decode cX12_worker 40 = .ok (.getfield 9, 3) := by decide +kernel
theorem dX12_worker_43 : decode cX12_worker 43 = .ok (.iconst 0, 1) := by decide +kernel
theorem dX12_worker_44 : decode cX12_worker 44 = .ok (.iaload, 1) := by decide +kernel
theorem dX12_worker_45 : decode cX12_worker 45 = .ok (.istore_n 3, 1) := by decide +kernel
theorem dX12_worker_46 : decode cX12_worker 46 = .ok (.aload_n 0, 1) := by decide +kernel
theorem dX12_worker_47 : decode cX12_worker 47 = .ok (.getfield 9, 3) := by decide +kernel
theorem dX12_worker_50 : decode cX12_worker 50 = .ok (.bipush 112, 2) := by decide +kernel
theorem dX12_worker_52 : decode cX12_worker 52 = .ok (.iload_n 3, 1) := by decide +kernel
theorem dX12_worker_53 : decode cX12_worker 53 = .ok (.iadd, 1) := by decide +kernel
theorem dX12_worker_54 : decode cX12_worker 54 = .ok (.iload_n 1, 1) := by decide +kernel
theorem dX12_worker_55 : decode cX12_worker 55 = .ok (.iastore, 1) := by decide +kernel
theorem dX12_worker_56 : decode cX12_worker 56 = .ok (.aload_n 0, 1) := by decide +kernel
theorem dX12_worker_57 : decode cX12_worker 57 = .ok (.getfield 9, 3) := by decide +kernel
theorem dX12_worker_60 : decode cX12_worker 60 = .ok (.bipush 120, 2) := by decide +kernel
theorem dX12_worker_62 : decode cX12_worker 62 = .ok (.iload_n 3, 1) := by decide +kernel
theorem dX12_worker_63 : decode cX12_worker 63 = .ok (.iadd, 1) := by decide +kernel
theorem dX12_worker_64 : decode cX12_worker 64 = .ok (.iload_n 2, 1) := by decide +kernel
theorem dX12_worker_65 : decode cX12_worker 65 = .ok (.iastore, 1) := by decide +kernel
theorem dX12_worker_66 : decode cX12_worker 66 = .ok (.iconst 0, 1) := by decide +kernel
theorem dX12_worker_67 : decode cX12_worker 67 = .ok (.istore 4, 2) := by decide +kernel
theorem dX12_worker_69 : decode cX12_worker 69 = .ok (.iload 4, 2) := by decide +kernel
theorem dX12_worker_71 : decode cX12_worker 71 = .ok (.iconst 3, 1) := by decide +kernel
theorem dX12_worker_72 : decode cX12_worker 72 = .ok (.if_icmp .ge 25, 3) := by decide +kernel
theorem dX12_worker_75 : decode cX12_worker 75 = .ok (.aload_n 0, 1) := by decide +kernel
theorem dX12_worker_76 : decode cX12_worker 76 = .ok (.getfield 9, 3) := by decide +kernel
theorem dX12_worker_79 : decode cX12_worker 79 = .ok (.sipush 128, 3) := by decide +kernel
theorem dX12_worker_82 : decode cX12_worker 82 = .ok (.iconst 3, 1) := by decide +kernel
theorem dX12_worker_83 : decode cX12_worker 83 = .ok (.iload_n 3, 1) := by decide +kernel
theorem dX12_worker_84 : decode cX12_worker 84 = .ok (.imul, 1) := by decide +kernel
theorem dX12_worker_85 : decode cX12_worker 85 = .ok (.iadd, 1) := by decide +kernel
theorem dX12_worker_86 : decode cX12_worker 86 = .ok (.iload 4, 2) := by decide +kernel
theorem dX12_worker_88 : decode cX12_worker 88 = .ok (.iadd, 1) := by decide +kernel
theorem dX12_worker_89 : decode cX12_worker 89 = .ok (.iconst 3, 1) := by decide +kernel
theorem dX12_worker_90 : decode cX12_worker 90 = .ok (.iastore, 1) := by decide +kernel
theorem dX12_worker_91 : decode cX12_worker 91 = .ok (.iinc 4 1, 3) := by decide +kernel
theorem dX12_worker_94 : decode cX12_worker 94 = .ok (.goto (-25), 3) := by decide +kernel
theorem dX12_worker_97 : decode cX12_worker 97 = .ok (.aload_n 0, 1) := by decide +kernel
theorem dX12_worker_98 : decode cX12_worker 98 = .ok (.getfield 9, 3) := by decide +kernel
theorem dX12_worker_101 : decode cX12_worker 101 = .ok (.iconst 0, 1) := by decide +kernel
theorem dX12_worker_102 : decode cX12_worker 102 = .ok (.dup2, 1) := by decide +kernel
theorem dX12_worker_103 : decode cX12_worker 103 = .ok (.iaload, 1) := by decide +kernel
theorem dX12_worker_104 : decode cX12_worker 104 = .ok (.iconst 1, 1) := by decide +kernel
theorem dX12_worker_105 : decode cX12_worker 105 = .ok (.iadd, 1) := by decide +kernel
theorem dX12_worker_106 : decode cX12_worker 106 = .ok (.iastore, 1) := by decide +kernel
theorem dX12_worker_107 : decode cX12_worker 107 = .ok (.iload_n 3, 1) := by decide +kernel
theorem dX12_worker_108 : decode cX12_worker 108 = .ok (.ireturn, 1) := by decide +kernel
theorem dX12_row_0 : decode cX12_row 0 = .ok (.aload_n 0, 1) := by decide +kernel
theorem dX12_row_1 : decode cX12_row 1 = .ok (.iload_n 1, 1) := by decide +kernel
theorem dX12_row_2 : decode cX12_row 2 = .ok (.invokevirtual 227, 3) := by decide +kernel
theorem dX12_row_5 : decode cX12_row 5 = .ok (.ifCond .eq 10, 3) := by decide +kernel
theorem dX12_row_8 : decode cX12_row 8 = .ok (.iload_n 2, 1) := by decide +kernel
theorem dX12_row_9 : decode cX12_row 9 = .ok (.invokestatic 73, 3) := by decide +kernel
theorem dX12_row_12 : decode cX12_row 12 = .ok (.ifCond .ne 5, 3) := by decide +kernel
theorem dX12_row_15 : decode cX12_row 15 = .ok (.iconst (-1), 1) := by decide +kernel
theorem dX12_row_16 : decode cX12_row 16 = .ok (.ireturn, 1) := by decide +kernel
theorem dX12_row_17 : decode cX12_row 17 = .ok (.iload_n 3, 1) := by decide +kernel
theorem dX12_row_18 : decode cX12_row 18 = .ok (.iconst 0, 1) := by decide +kernel
theorem dX12_row_19 : decode cX12_row 19 = .ok (.iconst 3, 1) := by decide +kernel
theorem dX12_row_20 : decode cX12_row 20 = .ok (.invokestatic 69, 3) := by decide +kernel
theorem dX12_row_23 : decode cX12_row 23 = .ok (.ifCond .ne 6, 3) := by decide +kernel
theorem dX12_row_26 : decode cX12_row 26 = .ok (.bipush (-2), 2) := by decide +kernel
theorem dX12_row_28 : decode cX12_row 28 = .ok (.ireturn, 1) := by decide +kernel
theorem dX12_row_29 : decode cX12_row 29 = .ok (.aload_n 0, 1) := by decide +kernel
theorem dX12_row_30 : decode cX12_row 30 = .ok (.getfield 9, 3) := by decide +kernel
theorem dX12_row_33 : decode cX12_row 33 = .ok (.bipush 112, 2) := by decide +kernel
theorem dX12_row_35 : decode cX12_row 35 = .ok (.iload_n 1, 1) := by decide +kernel
theorem dX12_row_36 : decode cX12_row 36 = .ok (.iadd, 1) := by decide +kernel
theorem dX12_row_37 : decode cX12_row 37 = .ok (.iaload, 1) := by decide +kernel
theorem dX12_row_38 : decode cX12_row 38 = .ok (.bipush 6, 2) := by decide +kernel
theorem dX12_row_40 : decode cX12_row 40 = .ok (.if_icmp .eq 6, 3) := by decide +kernel
theorem dX12_row_43 : decode cX12_row 43 = .ok (.bipush (-3), 2) := by decide +kernel
theorem dX12_row_45 : decode cX12_row 45 = .ok (.ireturn, 1) := by decide +kernel
theorem dX12_row_46 : decode cX12_row 46 = .ok (.aload_n 0, 1) := by decide +kernel
theorem dX12_row_47 : decode cX12_row 47 = .ok (.getfield 9, 3) := by decide +kernel
theorem dX12_row_50 : decode cX12_row 50 = .ok (.sipush 128, 3) := by decide +kernel
theorem dX12_row_53 : decode cX12_row 53 = .ok (.iconst 3, 1) := by decide +kernel
theorem dX12_row_54 : decode cX12_row 54 = .ok (.iload_n 1, 1) := by decide +kernel
theorem dX12_row_55 : decode cX12_row 55 = .ok (.imul, 1) := by decide +kernel
theorem dX12_row_56 : decode cX12_row 56 = .ok (.iadd, 1) := by decide +kernel
theorem dX12_row_57 : decode cX12_row 57 = .ok (.iload_n 2, 1) := by decide +kernel
theorem dX12_row_58 : decode cX12_row 58 = .ok (.iadd, 1) := by decide +kernel
theorem dX12_row_59 : decode cX12_row 59 = .ok (.iaload, 1) := by decide +kernel
theorem dX12_row_60 : decode cX12_row 60 = .ok (.istore 4, 2) := by decide +kernel
theorem dX12_row_62 : decode cX12_row 62 = .ok (.aload_n 0, 1) := by decide +kernel
theorem dX12_row_63 : decode cX12_row 63 = .ok (.getfield 9, 3) := by decide +kernel
theorem dX12_row_66 : decode cX12_row 66 = .ok (.sipush 128, 3) := by decide +kernel
theorem dX12_row_69 : decode cX12_row 69 = .ok (.iconst 3, 1) := by decide +kernel
theorem dX12_row_70 : decode cX12_row 70 = .ok (.iload_n 1, 1) := by decide +kernel
theorem dX12_row_71 : decode cX12_row 71 = .ok (.imul, 1) := by decide +kernel
theorem dX12_row_72 : decode cX12_row 72 = .ok (.iadd, 1) := by decide +kernel
theorem dX12_row_73 : decode cX12_row 73 = .ok (.iload_n 2, 1) := by decide +kernel
theorem dX12_row_74 : decode cX12_row 74 = .ok (.iadd, 1) := by decide +kernel
theorem dX12_row_75 : decode cX12_row 75 = .ok (.iload_n 3, 1) := by decide +kernel
theorem dX12_row_76 : decode cX12_row 76 = .ok (.iastore, 1) := by decide +kernel
theorem dX12_row_77 : decode cX12_row 77 = .ok (.iload 4, 2) := by decide +kernel
theorem dX12_row_79 : decode cX12_row 79 = .ok (.ireturn, 1) := by decide +kernel
theorem dX12_plainly_0 : decode cX12_plainly 0 = .ok (.aload_n 0, 1) := by decide +kernel
theorem dX12_plainly_1 : decode cX12_plainly 1 = .ok (.iload_n 1, 1) := by decide +kernel
theorem dX12_plainly_2 : decode cX12_plainly 2 = .ok (.iload_n 2, 1) := by decide +kernel
theorem dX12_plainly_3 : decode cX12_plainly 3 = .ok (.iconst 0, 1) := by decide +kernel
theorem dX12_plainly_4 : decode cX12_plainly 4 = .ok (.invokevirtual 206, 3) := by decide +kernel
theorem dX12_plainly_7 : decode cX12_plainly 7 = .ok (.ifCond .eq 7, 3) := by decide +kernel
theorem dX12_plainly_10 : decode cX12_plainly 10 = .ok (.iconst 0, 1) := by decide +kernel
theorem dX12_plainly_11 : decode cX12_plainly 11 = .ok (.goto 32, 3) := by decide +kernel
theorem dX12_plainly_14 : decode cX12_plainly 14 = .ok (.aload_n 0, 1) := by decide +kernel
theorem dX12_plainly_15 : decode cX12_plainly 15 = .ok (.iload_n 1, 1) := by decide +kernel
theorem dX12_plainly_16 : decode cX12_plainly 16 = .ok (.iload_n 2, 1) := by decide +kernel
theorem dX12_plainly_17 : decode cX12_plainly 17 = .ok (.iconst 1, 1) := by decide +kernel
theorem dX12_plainly_18 : decode cX12_plainly 18 = .ok (.invokevirtual 206, 3) := by decide +kernel
theorem dX12_plainly_21 : decode cX12_plainly 21 = .ok (.ifCond .eq 7, 3) := by decide +kernel
theorem dX12_plainly_24 : decode cX12_plainly 24 = .ok (.iconst 1, 1) := by decide +kernel
theorem dX12_plainly_25 : decode cX12_plainly 25 = .ok (.goto 18, 3) := by decide +kernel
theorem dX12_plainly_28 : decode cX12_plainly 28 = .ok (.aload_n 0, 1) := by decide +kernel
theorem dX12_plainly_29 : decode cX12_plainly 29 = .ok (.iload_n 1, 1) := by decide +kernel
theorem dX12_plainly_30 : decode cX12_plainly 30 = .ok (.iload_n 2, 1) := by decide +kernel
theorem dX12_plainly_31 : decode cX12_plainly 31 = .ok (.iconst 2, 1) := by decide +kernel
theorem dX12_plainly_32 : decode cX12_plainly 32 = .ok (.invokevirtual 206, 3) := by decide +kernel
theorem dX12_plainly_35 : decode cX12_plainly 35 = .ok (.ifCond .eq 7, 3) := by decide +kernel
theorem dX12_plainly_38 : decode cX12_plainly 38 = .ok (.iconst 2, 1) := by decide +kernel
theorem dX12_plainly_39 : decode cX12_plainly 39 = .ok (.goto 4, 3) := by decide +kernel
theorem dX12_plainly_42 : decode cX12_plainly 42 = .ok (.iconst (-1), 1) := by decide +kernel
theorem dX12_plainly_43 : decode cX12_plainly 43 = .ok (.ireturn, 1) := by decide +kernel
theorem dX12_leftOne_0 : decode cX12_leftOne 0 = .ok (.iconst (-1), 1) := by decide +kernel
theorem dX12_leftOne_1 : decode cX12_leftOne 1 = .ok (.istore_n 3, 1) := by decide +kernel
theorem dX12_leftOne_2 : decode cX12_leftOne 2 = .ok (.iconst 0, 1) := by decide +kernel
theorem dX12_leftOne_3 : decode cX12_leftOne 3 = .ok (.istore 4, 2) := by decide +kernel
theorem dX12_leftOne_5 : decode cX12_leftOne 5 = .ok (.iload 4, 2) := by decide +kernel
theorem dX12_leftOne_7 : decode cX12_leftOne 7 = .ok (.iconst 3, 1) := by decide +kernel
theorem dX12_leftOne_8 : decode cX12_leftOne 8 = .ok (.if_icmp .ge 46, 3) := by decide +kernel
theorem dX12_leftOne_11 : decode cX12_leftOne 11 = .ok (.aload_n 0, 1) := by decide +kernel
theorem dX12_leftOne_12 : decode cX12_leftOne 12 = .ok (.iload_n 1, 1) := by decide +kernel
theorem dX12_leftOne_13 : decode cX12_leftOne 13 = .ok (.iload_n 2, 1) := by decide +kernel
theorem dX12_leftOne_14 : decode cX12_leftOne 14 = .ok (.iload 4, 2) := by decide +kernel
theorem dX12_leftOne_16 : decode cX12_leftOne 16 = .ok (.invokevirtual 206, 3) := by decide +kernel
theorem dX12_leftOne_19 : decode cX12_leftOne 19 = .ok (.ifCond .eq 27, 3) := by decide +kernel
theorem dX12_leftOne_22 : decode cX12_leftOne 22 = .ok (.iload_n 3, 1) := by decide +kernel
theorem dX12_leftOne_23 : decode cX12_leftOne 23 = .ok (.iconst (-1), 1) := by decide +kernel
theorem dX12_leftOne_24 : decode cX12_leftOne 24 = .ok (.if_icmp .eq 17, 3) := by decide +kernel
theorem dX12_leftOne_27 : decode cX12_leftOne 27 = .ok (.aload_n 0, 1) := by decide +kernel
theorem dX12_leftOne_28 : decode cX12_leftOne 28 = .ok (.iload 4, 2) := by decide +kernel
theorem dX12_leftOne_30 : decode cX12_leftOne 30 = .ok (.invokevirtual 161, 3) := by decide +kernel
theorem dX12_leftOne_33 : decode cX12_leftOne 33 = .ok (.aload_n 0, 1) := by decide +kernel
theorem dX12_leftOne_34 : decode cX12_leftOne 34 = .ok (.iload_n 3, 1) := by decide +kernel
theorem dX12_leftOne_35 : decode cX12_leftOne 35 = .ok (.invokevirtual 161, 3) := by decide +kernel
theorem dX12_leftOne_38 : decode cX12_leftOne 38 = .ok (.if_icmp .le 8, 3) := by decide +kernel
theorem dX12_leftOne_41 : decode cX12_leftOne 41 = .ok (.iload 4, 2) := by decide +kernel
theorem dX12_leftOne_43 : decode cX12_leftOne 43 = .ok (.goto 4, 3) := by decide +kernel
theorem dX12_leftOne_46 : decode cX12_leftOne 46 = .ok (.iload_n 3, 1) := by decide +kernel
theorem dX12_leftOne_47 : decode cX12_leftOne 47 = .ok (.istore_n 3, 1) := by decide +kernel
theorem dX12_leftOne_48 : decode cX12_leftOne 48 = .ok (.iinc 4 1, 3) := by decide +kernel
theorem dX12_leftOne_51 : decode cX12_leftOne 51 = .ok (.goto (-46), 3) := by decide +kernel
theorem dX12_leftOne_54 : decode cX12_leftOne 54 = .ok (.iload_n 3, 1) := by decide +kernel
theorem dX12_leftOne_55 : decode cX12_leftOne 55 = .ok (.ireturn, 1) := by decide +kernel
theorem dX12_surely_0 : decode cX12_surely 0 = .ok (.iconst 0, 1) := by decide +kernel
theorem dX12_surely_1 : decode cX12_surely 1 = .ok (.istore_n 3, 1) := by decide +kernel
theorem dX12_surely_2 : decode cX12_surely 2 = .ok (.iload_n 3, 1) := by decide +kernel
theorem dX12_surely_3 : decode cX12_surely 3 = .ok (.iconst 3, 1) := by decide +kernel
theorem dX12_surely_4 : decode cX12_surely 4 = .ok (.if_icmp .ge 30, 3) := by decide +kernel
theorem dX12_surely_7 : decode cX12_surely 7 = .ok (.iload_n 1, 1) := by decide +kernel
theorem dX12_surely_8 : decode cX12_surely 8 = .ok (.iload_n 3, 1) := by decide +kernel
theorem dX12_surely_9 : decode cX12_surely 9 = .ok (.invokestatic 182, 3) := by decide +kernel
theorem dX12_surely_12 : decode cX12_surely 12 = .ok (.iconst 1, 1) := by decide +kernel
theorem dX12_surely_13 : decode cX12_surely 13 = .ok (.if_icmp .ne 15, 3) := by decide +kernel
theorem dX12_surely_16 : decode cX12_surely 16 = .ok (.aload_n 0, 1) := by decide +kernel
theorem dX12_surely_17 : decode cX12_surely 17 = .ok (.iload_n 1, 1) := by decide +kernel
theorem dX12_surely_18 : decode cX12_surely 18 = .ok (.iload_n 2, 1) := by decide +kernel
theorem dX12_surely_19 : decode cX12_surely 19 = .ok (.iload_n 3, 1) := by decide +kernel
theorem dX12_surely_20 : decode cX12_surely 20 = .ok (.invokevirtual 206, 3) := by decide +kernel
theorem dX12_surely_23 : decode cX12_surely 23 = .ok (.ifCond .eq 5, 3) := by decide +kernel
theorem dX12_surely_26 : decode cX12_surely 26 = .ok (.iload_n 3, 1) := by decide +kernel
theorem dX12_surely_27 : decode cX12_surely 27 = .ok (.ireturn, 1) := by decide +kernel
theorem dX12_surely_28 : decode cX12_surely 28 = .ok (.iinc 3 1, 3) := by decide +kernel
theorem dX12_surely_31 : decode cX12_surely 31 = .ok (.goto (-29), 3) := by decide +kernel
theorem dX12_surely_34 : decode cX12_surely 34 = .ok (.aload_n 0, 1) := by decide +kernel
theorem dX12_surely_35 : decode cX12_surely 35 = .ok (.iload_n 1, 1) := by decide +kernel
theorem dX12_surely_36 : decode cX12_surely 36 = .ok (.iload_n 2, 1) := by decide +kernel
theorem dX12_surely_37 : decode cX12_surely 37 = .ok (.invokevirtual 230, 3) := by decide +kernel
theorem dX12_surely_40 : decode cX12_surely 40 = .ok (.ireturn, 1) := by decide +kernel
theorem dX12_waiting_0 : decode cX12_waiting 0 = .ok (.iload_n 2, 1) := by decide +kernel
theorem dX12_waiting_1 : decode cX12_waiting 1 = .ok (.invokestatic 185, 3) := by decide +kernel
theorem dX12_waiting_4 : decode cX12_waiting 4 = .ok (.aload_n 0, 1) := by decide +kernel
theorem dX12_waiting_5 : decode cX12_waiting 5 = .ok (.getfield 9, 3) := by decide +kernel
theorem dX12_waiting_8 : decode cX12_waiting 8 = .ok (.bipush 120, 2) := by decide +kernel
theorem dX12_waiting_10 : decode cX12_waiting 10 = .ok (.iload_n 1, 1) := by decide +kernel
theorem dX12_waiting_11 : decode cX12_waiting 11 = .ok (.iadd, 1) := by decide +kernel
theorem dX12_waiting_12 : decode cX12_waiting 12 = .ok (.iaload, 1) := by decide +kernel
theorem dX12_waiting_13 : decode cX12_waiting 13 = .ok (.if_icmp .gt 12, 3) := by decide +kernel
theorem dX12_waiting_16 : decode cX12_waiting 16 = .ok (.aload_n 0, 1) := by decide +kernel
theorem dX12_waiting_17 : decode cX12_waiting 17 = .ok (.iload_n 2, 1) := by decide +kernel
theorem dX12_waiting_18 : decode cX12_waiting 18 = .ok (.iload_n 3, 1) := by decide +kernel
theorem dX12_waiting_19 : decode cX12_waiting 19 = .ok (.invokevirtual 230, 3) := by decide +kernel
theorem dX12_waiting_22 : decode cX12_waiting 22 = .ok (.goto 4, 3) := by decide +kernel
theorem dX12_waiting_25 : decode cX12_waiting 25 = .ok (.iconst (-1), 1) := by decide +kernel
theorem dX12_waiting_26 : decode cX12_waiting 26 = .ok (.ireturn, 1) := by decide +kernel
theorem dX12_bestly_0 : decode cX12_bestly 0 = .ok (.aload_n 0, 1) := by decide +kernel
theorem dX12_bestly_1 : decode cX12_bestly 1 = .ok (.iload_n 1, 1) := by decide +kernel
theorem dX12_bestly_2 : decode cX12_bestly 2 = .ok (.iload_n 2, 1) := by decide +kernel
theorem dX12_bestly_3 : decode cX12_bestly 3 = .ok (.invokevirtual 221, 3) := by decide +kernel
theorem dX12_bestly_6 : decode cX12_bestly 6 = .ok (.lstore_n 3, 1) := by decide +kernel
theorem dX12_bestly_7 : decode cX12_bestly 7 = .ok (.aload_n 0, 1) := by decide +kernel
theorem dX12_bestly_8 : decode cX12_bestly 8 = .ok (.getfield 35, 3) := by decide +kernel
theorem dX12_bestly_11 : decode cX12_bestly 11 = .ok (.iconst 3, 1) := by decide +kernel
theorem dX12_bestly_12 : decode cX12_bestly 12 = .ok (.iload_n 1, 1) := by decide +kernel
theorem dX12_bestly_13 : decode cX12_bestly 13 = .ok (.imul, 1) := by decide +kernel
theorem dX12_bestly_14 : decode cX12_bestly 14 = .ok (.iload_n 2, 1) := by decide +kernel
theorem dX12_bestly_15 : decode cX12_bestly 15 = .ok (.iadd, 1) := by decide +kernel
theorem dX12_bestly_16 : decode cX12_bestly 16 = .ok (.iaload, 1) := by decide +kernel
theorem dX12_bestly_17 : decode cX12_bestly 17 = .ok (.istore 5, 2) := by decide +kernel
theorem dX12_bestly_19 : decode cX12_bestly 19 = .ok (.iload 5, 2) := by decide +kernel
theorem dX12_bestly_21 : decode cX12_bestly 21 = .ok (.iconst 3, 1) := by decide +kernel
theorem dX12_bestly_22 : decode cX12_bestly 22 = .ok (.if_icmp .ne 7, 3) := by decide +kernel
theorem dX12_bestly_25 : decode cX12_bestly 25 = .ok (.iconst (-1), 1) := by decide +kernel
theorem dX12_bestly_26 : decode cX12_bestly 26 = .ok (.goto 5, 3) := by decide +kernel
theorem dX12_bestly_29 : decode cX12_bestly 29 = .ok (.iload 5, 2) := by decide +kernel
theorem dX12_bestly_31 : decode cX12_bestly 31 = .ok (.ireturn, 1) := by decide +kernel
theorem dX12_doesOn_0 : decode cX12_doesOn 0 = .ok (.aload_n 0, 1) := by decide +kernel
theorem dX12_doesOn_1 : decode cX12_doesOn 1 = .ok (.getfield 9, 3) := by decide +kernel
theorem dX12_doesOn_4 : decode cX12_doesOn 4 = .ok (.sipush 128, 3) := by decide +kernel
theorem dX12_doesOn_7 : decode cX12_doesOn 7 = .ok (.iconst 3, 1) := by decide +kernel
theorem dX12_doesOn_8 : decode cX12_doesOn 8 = .ok (.iload_n 1, 1) := by decide +kernel
theorem dX12_doesOn_9 : decode cX12_doesOn 9 = .ok (.imul, 1) := by decide +kernel
theorem dX12_doesOn_10 : decode cX12_doesOn 10 = .ok (.iadd, 1) := by decide +kernel
theorem dX12_doesOn_11 : decode cX12_doesOn 11 = .ok (.iload_n 3, 1) := by decide +kernel
theorem dX12_doesOn_12 : decode cX12_doesOn 12 = .ok (.iadd, 1) := by decide +kernel
theorem dX12_doesOn_13 : decode cX12_doesOn 13 = .ok (.iaload, 1) := by decide +kernel
theorem dX12_doesOn_14 : decode cX12_doesOn 14 = .ok (.istore 4, 2) := by decide +kernel
theorem dX12_doesOn_16 : decode cX12_doesOn 16 = .ok (.aload_n 0, 1) := by decide +kernel
theorem dX12_doesOn_17 : decode cX12_doesOn 17 = .ok (.getfield 9, 3) := by decide +kernel
theorem dX12_doesOn_20 : decode cX12_doesOn 20 = .ok (.bipush 112, 2) := by decide +kernel
theorem dX12_doesOn_22 : decode cX12_doesOn 22 = .ok (.iload_n 1, 1) := by decide +kernel
theorem dX12_doesOn_23 : decode cX12_doesOn 23 = .ok (.iadd, 1) := by decide +kernel
theorem dX12_doesOn_24 : decode cX12_doesOn 24 = .ok (.iaload, 1) := by decide +kernel
theorem dX12_doesOn_25 : decode cX12_doesOn 25 = .ok (.tableswitch 105 1 6 #[39, 46, 53, 61, 68, 75], 39) := by decide +kernel
theorem dX12_doesOn_64 : decode cX12_doesOn 64 = .ok (.aload_n 0, 1) := by decide +kernel
theorem dX12_doesOn_65 : decode cX12_doesOn 65 = .ok (.iload_n 2, 1) := by decide +kernel
theorem dX12_doesOn_66 : decode cX12_doesOn 66 = .ok (.iload_n 3, 1) := by decide +kernel
theorem dX12_doesOn_67 : decode cX12_doesOn 67 = .ok (.invokevirtual 230, 3) := by decide +kernel
theorem dX12_doesOn_70 : decode cX12_doesOn 70 = .ok (.ireturn, 1) := by decide +kernel
theorem dX12_doesOn_71 : decode cX12_doesOn 71 = .ok (.aload_n 0, 1) := by decide +kernel
theorem dX12_doesOn_72 : decode cX12_doesOn 72 = .ok (.iload_n 2, 1) := by decide +kernel
theorem dX12_doesOn_73 : decode cX12_doesOn 73 = .ok (.iload_n 3, 1) := by decide +kernel
theorem dX12_doesOn_74 : decode cX12_doesOn 74 = .ok (.invokevirtual 233, 3) := by decide +kernel
theorem dX12_doesOn_77 : decode cX12_doesOn 77 = .ok (.ireturn, 1) := by decide +kernel
theorem dX12_doesOn_78 : decode cX12_doesOn 78 = .ok (.aload_n 0, 1) := by decide +kernel
theorem dX12_doesOn_79 : decode cX12_doesOn 79 = .ok (.iload_n 1, 1) := by decide +kernel
theorem dX12_doesOn_80 : decode cX12_doesOn 80 = .ok (.iload_n 2, 1) := by decide +kernel
theorem dX12_doesOn_81 : decode cX12_doesOn 81 = .ok (.iload_n 3, 1) := by decide +kernel
theorem dX12_doesOn_82 : decode cX12_doesOn 82 = .ok (.invokevirtual 236, 3) := by decide +kernel
theorem dX12_doesOn_85 : decode cX12_doesOn 85 = .ok (.ireturn, 1) := by decide +kernel
theorem dX12_doesOn_86 : decode cX12_doesOn 86 = .ok (.aload_n 0, 1) := by decide +kernel
theorem dX12_doesOn_87 : decode cX12_doesOn 87 = .ok (.iload_n 2, 1) := by decide +kernel
theorem dX12_doesOn_88 : decode cX12_doesOn 88 = .ok (.iload_n 3, 1) := by decide +kernel
theorem dX12_doesOn_89 : decode cX12_doesOn 89 = .ok (.invokevirtual 240, 3) := by decide +kernel
theorem dX12_doesOn_92 : decode cX12_doesOn 92 = .ok (.ireturn, 1) := by decide +kernel
theorem dX12_doesOn_93 : decode cX12_doesOn 93 = .ok (.aload_n 0, 1) := by decide +kernel
theorem dX12_doesOn_94 : decode cX12_doesOn 94 = .ok (.iload_n 2, 1) := by decide +kernel
theorem dX12_doesOn_95 : decode cX12_doesOn 95 = .ok (.iload_n 3, 1) := by decide +kernel
theorem dX12_doesOn_96 : decode cX12_doesOn 96 = .ok (.invokevirtual 243, 3) := by decide +kernel
theorem dX12_doesOn_99 : decode cX12_doesOn 99 = .ok (.ireturn, 1) := by decide +kernel
theorem dX12_doesOn_100 : decode cX12_doesOn 100 = .ok (.iload 4, 2) := by decide +kernel
theorem dX12_doesOn_102 : decode cX12_doesOn 102 = .ok (.iconst 3, 1) := by decide +kernel
theorem dX12_doesOn_103 : decode cX12_doesOn 103 = .ok (.if_icmp .ge 19, 3) := by decide +kernel
theorem dX12_doesOn_106 : decode cX12_doesOn 106 = .ok (.aload_n 0, 1) := by decide +kernel
theorem dX12_doesOn_107 : decode cX12_doesOn 107 = .ok (.iload_n 2, 1) := by decide +kernel
theorem dX12_doesOn_108 : decode cX12_doesOn 108 = .ok (.iload_n 3, 1) := by decide +kernel
theorem dX12_doesOn_109 : decode cX12_doesOn 109 = .ok (.iload 4, 2) := by decide +kernel
theorem dX12_doesOn_111 : decode cX12_doesOn 111 = .ok (.invokevirtual 206, 3) := by decide +kernel
theorem dX12_doesOn_114 : decode cX12_doesOn 114 = .ok (.ifCond .eq 8, 3) := by decide +kernel
theorem dX12_doesOn_117 : decode cX12_doesOn 117 = .ok (.iload 4, 2) := by decide +kernel
theorem dX12_doesOn_119 : decode cX12_doesOn 119 = .ok (.goto 10, 3) := by decide +kernel
theorem dX12_doesOn_122 : decode cX12_doesOn 122 = .ok (.aload_n 0, 1) := by decide +kernel
theorem dX12_doesOn_123 : decode cX12_doesOn 123 = .ok (.iload_n 1, 1) := by decide +kernel
theorem dX12_doesOn_124 : decode cX12_doesOn 124 = .ok (.iload_n 2, 1) := by decide +kernel
theorem dX12_doesOn_125 : decode cX12_doesOn 125 = .ok (.iload_n 3, 1) := by decide +kernel
theorem dX12_doesOn_126 : decode cX12_doesOn 126 = .ok (.invokevirtual 236, 3) := by decide +kernel
theorem dX12_doesOn_129 : decode cX12_doesOn 129 = .ok (.ireturn, 1) := by decide +kernel
theorem dX12_doesOn_130 : decode cX12_doesOn 130 = .ok (.iconst (-1), 1) := by decide +kernel
theorem dX12_doesOn_131 : decode cX12_doesOn 131 = .ok (.ireturn, 1) := by decide +kernel
theorem dX12_of_0 : decode cX12_of 0 = .ok (.aload_n 0, 1) := by decide +kernel
theorem dX12_of_1 : decode cX12_of 1 = .ok (.iload_n 1, 1) := by decide +kernel
theorem dX12_of_2 : decode cX12_of 2 = .ok (.invokevirtual 227, 3) := by decide +kernel
theorem dX12_of_5 : decode cX12_of 5 = .ok (.ifCond .ne 5, 3) := by decide +kernel
theorem dX12_of_8 : decode cX12_of 8 = .ok (.iconst (-1), 1) := by decide +kernel
theorem dX12_of_9 : decode cX12_of 9 = .ok (.ireturn, 1) := by decide +kernel
theorem dX12_of_10 : decode cX12_of 10 = .ok (.iload_n 2, 1) := by decide +kernel
theorem dX12_of_11 : decode cX12_of 11 = .ok (.ifCond .eq 8, 3) := by decide +kernel
theorem dX12_of_14 : decode cX12_of 14 = .ok (.iload_n 2, 1) := by decide +kernel
theorem dX12_of_15 : decode cX12_of 15 = .ok (.iconst 1, 1) := by decide +kernel
theorem dX12_of_16 : decode cX12_of 16 = .ok (.if_icmp .ne 29, 3) := by decide +kernel
theorem dX12_of_19 : decode cX12_of 19 = .ok (.iload_n 2, 1) := by decide +kernel
theorem dX12_of_20 : decode cX12_of 20 = .ok (.ifCond .ne 15, 3) := by decide +kernel
theorem dX12_of_23 : decode cX12_of 23 = .ok (.aload_n 0, 1) := by decide +kernel
theorem dX12_of_24 : decode cX12_of 24 = .ok (.getfield 9, 3) := by decide +kernel
theorem dX12_of_27 : decode cX12_of 27 = .ok (.bipush 112, 2) := by decide +kernel
theorem dX12_of_29 : decode cX12_of 29 = .ok (.iload_n 1, 1) := by decide +kernel
theorem dX12_of_30 : decode cX12_of 30 = .ok (.iadd, 1) := by decide +kernel
theorem dX12_of_31 : decode cX12_of 31 = .ok (.iaload, 1) := by decide +kernel
theorem dX12_of_32 : decode cX12_of 32 = .ok (.goto 12, 3) := by decide +kernel
theorem dX12_of_35 : decode cX12_of 35 = .ok (.aload_n 0, 1) := by decide +kernel
theorem dX12_of_36 : decode cX12_of 36 = .ok (.getfield 9, 3) := by decide +kernel
theorem dX12_of_39 : decode cX12_of 39 = .ok (.bipush 120, 2) := by decide +kernel
theorem dX12_of_41 : decode cX12_of 41 = .ok (.iload_n 1, 1) := by decide +kernel
theorem dX12_of_42 : decode cX12_of 42 = .ok (.iadd, 1) := by decide +kernel
theorem dX12_of_43 : decode cX12_of 43 = .ok (.iaload, 1) := by decide +kernel
theorem dX12_of_44 : decode cX12_of 44 = .ok (.ireturn, 1) := by decide +kernel
theorem dX12_of_45 : decode cX12_of 45 = .ok (.iload_n 2, 1) := by decide +kernel
theorem dX12_of_46 : decode cX12_of 46 = .ok (.bipush 10, 2) := by decide +kernel
theorem dX12_of_48 : decode cX12_of 48 = .ok (.bipush 12, 2) := by decide +kernel
theorem dX12_of_50 : decode cX12_of 50 = .ok (.invokestatic 69, 3) := by decide +kernel
theorem dX12_of_53 : decode cX12_of 53 = .ok (.ifCond .ne 5, 3) := by decide +kernel
theorem dX12_of_56 : decode cX12_of 56 = .ok (.iconst (-1), 1) := by decide +kernel
theorem dX12_of_57 : decode cX12_of 57 = .ok (.ireturn, 1) := by decide +kernel
theorem dX12_of_58 : decode cX12_of 58 = .ok (.iload_n 2, 1) := by decide +kernel
theorem dX12_of_59 : decode cX12_of 59 = .ok (.bipush 10, 2) := by decide +kernel
theorem dX12_of_61 : decode cX12_of 61 = .ok (.isub, 1) := by decide +kernel
theorem dX12_of_62 : decode cX12_of 62 = .ok (.istore_n 3, 1) := by decide +kernel
theorem dX12_of_63 : decode cX12_of 63 = .ok (.aload_n 0, 1) := by decide +kernel
theorem dX12_of_64 : decode cX12_of 64 = .ok (.getfield 9, 3) := by decide +kernel
theorem dX12_of_67 : decode cX12_of 67 = .ok (.bipush 6, 2) := by decide +kernel
theorem dX12_of_69 : decode cX12_of 69 = .ok (.iload_n 3, 1) := by decide +kernel
theorem dX12_of_70 : decode cX12_of 70 = .ok (.iadd, 1) := by decide +kernel
theorem dX12_of_71 : decode cX12_of 71 = .ok (.iaload, 1) := by decide +kernel
theorem dX12_of_72 : decode cX12_of 72 = .ok (.ifCond .ne 6, 3) := by decide +kernel
theorem dX12_of_75 : decode cX12_of 75 = .ok (.bipush (-5), 2) := by decide +kernel
theorem dX12_of_77 : decode cX12_of 77 = .ok (.ireturn, 1) := by decide +kernel
theorem dX12_of_78 : decode cX12_of 78 = .ok (.aload_n 0, 1) := by decide +kernel
theorem dX12_of_79 : decode cX12_of 79 = .ok (.invokevirtual 246, 3) := by decide +kernel
theorem dX12_of_82 : decode cX12_of 82 = .ok (.aload_n 0, 1) := by decide +kernel
theorem dX12_of_83 : decode cX12_of 83 = .ok (.iload_n 1, 1) := by decide +kernel
theorem dX12_of_84 : decode cX12_of 84 = .ok (.aload_n 0, 1) := by decide +kernel
theorem dX12_of_85 : decode cX12_of 85 = .ok (.invokevirtual 249, 3) := by decide +kernel
theorem dX12_of_88 : decode cX12_of 88 = .ok (.iload_n 3, 1) := by decide +kernel
theorem dX12_of_89 : decode cX12_of 89 = .ok (.invokestatic 218, 3) := by decide +kernel
theorem dX12_of_92 : decode cX12_of 92 = .ok (.iload_n 3, 1) := by decide +kernel
theorem dX12_of_93 : decode cX12_of 93 = .ok (.invokevirtual 252, 3) := by decide +kernel
theorem dX12_of_96 : decode cX12_of 96 = .ok (.istore 4, 2) := by decide +kernel
theorem dX12_of_98 : decode cX12_of 98 = .ok (.iload 4, 2) := by decide +kernel
theorem dX12_of_100 : decode cX12_of 100 = .ok (.iconst (-1), 1) := by decide +kernel
theorem dX12_of_101 : decode cX12_of 101 = .ok (.if_icmp .ne 8, 3) := by decide +kernel
theorem dX12_of_104 : decode cX12_of 104 = .ok (.bipush (-5), 2) := by decide +kernel
theorem dX12_of_106 : decode cX12_of 106 = .ok (.goto 5, 3) := by decide +kernel
theorem dX12_of_109 : decode cX12_of 109 = .ok (.iload 4, 2) := by decide +kernel
theorem dX12_of_111 : decode cX12_of 111 = .ok (.ireturn, 1) := by decide +kernel
theorem dX12_draw_0 : decode cX12_draw 0 = .ok (.aload_n 0, 1) := by decide +kernel
theorem dX12_draw_1 : decode cX12_draw 1 = .ok (.iload_n 1, 1) := by decide +kernel
theorem dX12_draw_2 : decode cX12_draw 2 = .ok (.invokevirtual 227, 3) := by decide +kernel
theorem dX12_draw_5 : decode cX12_draw 5 = .ok (.ifCond .eq 10, 3) := by decide +kernel
theorem dX12_draw_8 : decode cX12_draw 8 = .ok (.iload_n 2, 1) := by decide +kernel
theorem dX12_draw_9 : decode cX12_draw 9 = .ok (.invokestatic 73, 3) := by decide +kernel
theorem dX12_draw_12 : decode cX12_draw 12 = .ok (.ifCond .ne 7, 3) := by decide +kernel
theorem dX12_draw_15 : decode cX12_draw 15 = .ok (.sipush (-1001), 3) := by decide +kernel
theorem dX12_draw_18 : decode cX12_draw 18 = .ok (.ireturn, 1) := by decide +kernel
theorem dX12_draw_19 : decode cX12_draw 19 = .ok (.aload_n 0, 1) := by decide +kernel
theorem dX12_draw_20 : decode cX12_draw 20 = .ok (.getfield 9, 3) := by decide +kernel
theorem dX12_draw_23 : decode cX12_draw 23 = .ok (.bipush 6, 2) := by decide +kernel
theorem dX12_draw_25 : decode cX12_draw 25 = .ok (.iload_n 2, 1) := by decide +kernel
theorem dX12_draw_26 : decode cX12_draw 26 = .ok (.iadd, 1) := by decide +kernel
theorem dX12_draw_27 : decode cX12_draw 27 = .ok (.iaload, 1) := by decide +kernel
theorem dX12_draw_28 : decode cX12_draw 28 = .ok (.ifCond .eq 14, 3) := by decide +kernel
theorem dX12_draw_31 : decode cX12_draw 31 = .ok (.aload_n 0, 1) := by decide +kernel
theorem dX12_draw_32 : decode cX12_draw 32 = .ok (.getfield 9, 3) := by decide +kernel
theorem dX12_draw_35 : decode cX12_draw 35 = .ok (.iconst 5, 1) := by decide +kernel
theorem dX12_draw_36 : decode cX12_draw 36 = .ok (.iaload, 1) := by decide +kernel
theorem dX12_draw_37 : decode cX12_draw 37 = .ok (.bipush 99, 2) := by decide +kernel
theorem dX12_draw_39 : decode cX12_draw 39 = .ok (.if_icmp .ne 7, 3) := by decide +kernel
theorem dX12_draw_42 : decode cX12_draw 42 = .ok (.sipush (-1002), 3) := by decide +kernel
theorem dX12_draw_45 : decode cX12_draw 45 = .ok (.ireturn, 1) := by decide +kernel
theorem dX12_draw_46 : decode cX12_draw 46 = .ok (.aload_n 0, 1) := by decide +kernel
theorem dX12_draw_47 : decode cX12_draw 47 = .ok (.invokevirtual 246, 3) := by decide +kernel
theorem dX12_draw_50 : decode cX12_draw 50 = .ok (.aload_n 0, 1) := by decide +kernel
theorem dX12_draw_51 : decode cX12_draw 51 = .ok (.invokevirtual 249, 3) := by decide +kernel
theorem dX12_draw_54 : decode cX12_draw 54 = .ok (.iload_n 2, 1) := by decide +kernel
theorem dX12_draw_55 : decode cX12_draw 55 = .ok (.invokestatic 218, 3) := by decide +kernel
theorem dX12_draw_58 : decode cX12_draw 58 = .ok (.istore_n 3, 1) := by decide +kernel
theorem dX12_draw_59 : decode cX12_draw 59 = .ok (.aload_n 0, 1) := by decide +kernel
theorem dX12_draw_60 : decode cX12_draw 60 = .ok (.iload_n 1, 1) := by decide +kernel
theorem dX12_draw_61 : decode cX12_draw 61 = .ok (.iload_n 3, 1) := by decide +kernel
theorem dX12_draw_62 : decode cX12_draw 62 = .ok (.iload_n 2, 1) := by decide +kernel
theorem dX12_draw_63 : decode cX12_draw 63 = .ok (.invokevirtual 252, 3) := by decide +kernel
theorem dX12_draw_66 : decode cX12_draw 66 = .ok (.istore 4, 2) := by decide +kernel
theorem dX12_draw_68 : decode cX12_draw 68 = .ok (.aload_n 0, 1) := by decide +kernel
theorem dX12_draw_69 : decode cX12_draw 69 = .ok (.iload_n 3, 1) := by decide +kernel
theorem dX12_draw_70 : decode cX12_draw 70 = .ok (.iload 4, 2) := by decide +kernel
theorem dX12_draw_72 : decode cX12_draw 72 = .ok (.invokevirtual 212, 3) := by decide +kernel
theorem dX12_draw_75 : decode cX12_draw 75 = .ok (.istore 5, 2) := by decide +kernel
theorem dX12_draw_77 : decode cX12_draw 77 = .ok (.aload_n 0, 1) := by decide +kernel
theorem dX12_draw_78 : decode cX12_draw 78 = .ok (.getfield 9, 3) := by decide +kernel
theorem dX12_draw_81 : decode cX12_draw 81 = .ok (.bipush 6, 2) := by decide +kernel
theorem dX12_draw_83 : decode cX12_draw 83 = .ok (.iload_n 2, 1) := by decide +kernel
theorem dX12_draw_84 : decode cX12_draw 84 = .ok (.iadd, 1) := by decide +kernel
theorem dX12_draw_85 : decode cX12_draw 85 = .ok (.dup2, 1) := by decide +kernel
theorem dX12_draw_86 : decode cX12_draw 86 = .ok (.iaload, 1) := by decide +kernel
theorem dX12_draw_87 : decode cX12_draw 87 = .ok (.iconst 1, 1) := by decide +kernel
theorem dX12_draw_88 : decode cX12_draw 88 = .ok (.isub, 1) := by decide +kernel
theorem dX12_draw_89 : decode cX12_draw 89 = .ok (.iastore, 1) := by decide +kernel
theorem dX12_draw_90 : decode cX12_draw 90 = .ok (.aload_n 0, 1) := by decide +kernel
theorem dX12_draw_91 : decode cX12_draw 91 = .ok (.getfield 9, 3) := by decide +kernel
theorem dX12_draw_94 : decode cX12_draw 94 = .ok (.iconst 5, 1) := by decide +kernel
theorem dX12_draw_95 : decode cX12_draw 95 = .ok (.dup2, 1) := by decide +kernel
theorem dX12_draw_96 : decode cX12_draw 96 = .ok (.iaload, 1) := by decide +kernel
theorem dX12_draw_97 : decode cX12_draw 97 = .ok (.iconst 1, 1) := by decide +kernel
theorem dX12_draw_98 : decode cX12_draw 98 = .ok (.iadd, 1) := by decide +kernel
theorem dX12_draw_99 : decode cX12_draw 99 = .ok (.iastore, 1) := by decide +kernel
theorem dX12_draw_100 : decode cX12_draw 100 = .ok (.iload 4, 2) := by decide +kernel
theorem dX12_draw_102 : decode cX12_draw 102 = .ok (.iconst (-1), 1) := by decide +kernel
theorem dX12_draw_103 : decode cX12_draw 103 = .ok (.if_icmp .eq 17, 3) := by decide +kernel
theorem dX12_draw_106 : decode cX12_draw 106 = .ok (.aload_n 0, 1) := by decide +kernel
theorem dX12_draw_107 : decode cX12_draw 107 = .ok (.getfield 9, 3) := by decide +kernel
theorem dX12_draw_110 : decode cX12_draw 110 = .ok (.bipush 9, 2) := by decide +kernel
theorem dX12_draw_112 : decode cX12_draw 112 = .ok (.iload 4, 2) := by decide +kernel
theorem dX12_draw_114 : decode cX12_draw 114 = .ok (.iadd, 1) := by decide +kernel
theorem dX12_draw_115 : decode cX12_draw 115 = .ok (.dup2, 1) := by decide +kernel
theorem dX12_draw_116 : decode cX12_draw 116 = .ok (.iaload, 1) := by decide +kernel
theorem dX12_draw_117 : decode cX12_draw 117 = .ok (.iconst 1, 1) := by decide +kernel
theorem dX12_draw_118 : decode cX12_draw 118 = .ok (.iadd, 1) := by decide +kernel
theorem dX12_draw_119 : decode cX12_draw 119 = .ok (.iastore, 1) := by decide +kernel
theorem dX12_draw_120 : decode cX12_draw 120 = .ok (.iload 5, 2) := by decide +kernel
theorem dX12_draw_122 : decode cX12_draw 122 = .ok (.ireturn, 1) := by decide +kernel
theorem dX12_divisor_0 : decode cX12_divisor 0 = .ok (.lload_n 0, 1) := by decide +kernel
theorem dX12_divisor_1 : decode cX12_divisor 1 = .ok (.lconst 0, 1) := by decide +kernel
theorem dX12_divisor_2 : decode cX12_divisor 2 = .ok (.lcmp, 1) := by decide +kernel
theorem dX12_divisor_3 : decode cX12_divisor 3 = .ok (.ifCond .ge 8, 3) := by decide +kernel
theorem dX12_divisor_6 : decode cX12_divisor 6 = .ok (.lload_n 0, 1) := by decide +kernel
theorem dX12_divisor_7 : decode cX12_divisor 7 = .ok (.lneg, 1) := by decide +kernel
theorem dX12_divisor_8 : decode cX12_divisor 8 = .ok (.goto 4, 3) := by decide +kernel
theorem dX12_divisor_11 : decode cX12_divisor 11 = .ok (.lload_n 0, 1) := by decide +kernel
theorem dX12_divisor_12 : decode cX12_divisor 12 = .ok (.lstore 4, 2) := by decide +kernel
theorem dX12_divisor_14 : decode cX12_divisor 14 = .ok (.lload_n 2, 1) := by decide +kernel
theorem dX12_divisor_15 : decode cX12_divisor 15 = .ok (.lstore 6, 2) := by decide +kernel
theorem dX12_divisor_17 : decode cX12_divisor 17 = .ok (.lload 6, 2) := by decide +kernel
theorem dX12_divisor_19 : decode cX12_divisor 19 = .ok (.lconst 0, 1) := by decide +kernel
theorem dX12_divisor_20 : decode cX12_divisor 20 = .ok (.lcmp, 1) := by decide +kernel
theorem dX12_divisor_21 : decode cX12_divisor 21 = .ok (.ifCond .eq 21, 3) := by decide +kernel
theorem dX12_divisor_24 : decode cX12_divisor 24 = .ok (.lload 4, 2) := by decide +kernel
theorem dX12_divisor_26 : decode cX12_divisor 26 = .ok (.lload 6, 2) := by decide +kernel
theorem dX12_divisor_28 : decode cX12_divisor 28 = .ok (.lrem, 1) := by decide +kernel
theorem dX12_divisor_29 : decode cX12_divisor 29 = .ok (.lstore 8, 2) := by decide +kernel
theorem dX12_divisor_31 : decode cX12_divisor 31 = .ok (.lload 6, 2) := by decide +kernel
theorem dX12_divisor_33 : decode cX12_divisor 33 = .ok (.lstore 4, 2) := by decide +kernel
theorem dX12_divisor_35 : decode cX12_divisor 35 = .ok (.lload 8, 2) := by decide +kernel
theorem dX12_divisor_37 : decode cX12_divisor 37 = .ok (.lstore 6, 2) := by decide +kernel
theorem dX12_divisor_39 : decode cX12_divisor 39 = .ok (.goto (-22), 3) := by decide +kernel
theorem dX12_divisor_42 : decode cX12_divisor 42 = .ok (.lload 4, 2) := by decide +kernel
theorem dX12_divisor_44 : decode cX12_divisor 44 = .ok (.lreturn, 1) := by decide +kernel
theorem dX12_lowest_0 : decode cX12_lowest 0 = .ok (.iload 4, 2) := by decide +kernel
theorem dX12_lowest_2 : decode cX12_lowest 2 = .ok (.ifCond .ne 7, 3) := by decide +kernel
theorem dX12_lowest_5 : decode cX12_lowest 5 = .ok (.lload_n 0, 1) := by decide +kernel
theorem dX12_lowest_6 : decode cX12_lowest 6 = .ok (.goto 4, 3) := by decide +kernel
theorem dX12_lowest_9 : decode cX12_lowest 9 = .ok (.lload_n 2, 1) := by decide +kernel
theorem dX12_lowest_10 : decode cX12_lowest 10 = .ok (.lload_n 0, 1) := by decide +kernel
theorem dX12_lowest_11 : decode cX12_lowest 11 = .ok (.lload_n 2, 1) := by decide +kernel
theorem dX12_lowest_12 : decode cX12_lowest 12 = .ok (.invokestatic 255, 3) := by decide +kernel
theorem dX12_lowest_15 : decode cX12_lowest 15 = .ok (.ldiv, 1) := by decide +kernel
theorem dX12_lowest_16 : decode cX12_lowest 16 = .ok (.lreturn, 1) := by decide +kernel
theorem dX12_next_0 : decode cX12_next 0 = .ok (.iload_n 1, 1) := by decide +kernel
theorem dX12_next_1 : decode cX12_next 1 = .ok (.invokestatic 73, 3) := by decide +kernel
theorem dX12_next_4 : decode cX12_next 4 = .ok (.ifCond .eq 12, 3) := by decide +kernel
theorem dX12_next_7 : decode cX12_next 7 = .ok (.iload_n 2, 1) := by decide +kernel
theorem dX12_next_8 : decode cX12_next 8 = .ok (.iconst 0, 1) := by decide +kernel
theorem dX12_next_9 : decode cX12_next 9 = .ok (.iconst 1, 1) := by decide +kernel
theorem dX12_next_10 : decode cX12_next 10 = .ok (.invokestatic 69, 3) := by decide +kernel
theorem dX12_next_13 : decode cX12_next 13 = .ok (.ifCond .ne 7, 3) := by decide +kernel
theorem dX12_next_16 : decode cX12_next 16 = .ok (.ldc2_w 259, 3) := by decide +kernel
theorem dX12_next_19 : decode cX12_next 19 = .ok (.lreturn, 1) := by decide +kernel
theorem dX12_next_20 : decode cX12_next 20 = .ok (.aload_n 0, 1) := by decide +kernel
theorem dX12_next_21 : decode cX12_next 21 = .ok (.invokevirtual 158, 3) := by decide +kernel
theorem dX12_next_24 : decode cX12_next 24 = .ok (.ifCond .ne 8, 3) := by decide +kernel
theorem dX12_next_27 : decode cX12_next 27 = .ok (.iload_n 2, 1) := by decide +kernel
theorem dX12_next_28 : decode cX12_next 28 = .ok (.i2l, 1) := by decide +kernel
theorem dX12_next_29 : decode cX12_next 29 = .ok (.goto 22, 3) := by decide +kernel
theorem dX12_next_32 : decode cX12_next 32 = .ok (.aload_n 0, 1) := by decide +kernel
theorem dX12_next_33 : decode cX12_next 33 = .ok (.getfield 9, 3) := by decide +kernel
theorem dX12_next_36 : decode cX12_next 36 = .ok (.bipush 6, 2) := by decide +kernel
theorem dX12_next_38 : decode cX12_next 38 = .ok (.iload_n 1, 1) := by decide +kernel
theorem dX12_next_39 : decode cX12_next 39 = .ok (.iadd, 1) := by decide +kernel
theorem dX12_next_40 : decode cX12_next 40 = .ok (.iaload, 1) := by decide +kernel
theorem dX12_next_41 : decode cX12_next 41 = .ok (.i2l, 1) := by decide +kernel
theorem dX12_next_42 : decode cX12_next 42 = .ok (.aload_n 0, 1) := by decide +kernel
theorem dX12_next_43 : decode cX12_next 43 = .ok (.invokevirtual 158, 3) := by decide +kernel
theorem dX12_next_46 : decode cX12_next 46 = .ok (.i2l, 1) := by decide +kernel
theorem dX12_next_47 : decode cX12_next 47 = .ok (.iload_n 2, 1) := by decide +kernel
theorem dX12_next_48 : decode cX12_next 48 = .ok (.invokestatic 261, 3) := by decide +kernel
theorem dX12_next_51 : decode cX12_next 51 = .ok (.lreturn, 1) := by decide +kernel
theorem dX12_run_0 : decode cX12_run 0 = .ok (.iload_n 1, 1) := by decide +kernel
theorem dX12_run_1 : decode cX12_run 1 = .ok (.invokestatic 73, 3) := by decide +kernel
theorem dX12_run_4 : decode cX12_run 4 = .ok (.ifCond .eq 21, 3) := by decide +kernel
theorem dX12_run_7 : decode cX12_run 7 = .ok (.iload_n 2, 1) := by decide +kernel
theorem dX12_run_8 : decode cX12_run 8 = .ok (.iconst 1, 1) := by decide +kernel
theorem dX12_run_9 : decode cX12_run 9 = .ok (.iconst 5, 1) := by decide +kernel
theorem dX12_run_10 : decode cX12_run 10 = .ok (.invokestatic 69, 3) := by decide +kernel
theorem dX12_run_13 : decode cX12_run 13 = .ok (.ifCond .eq 12, 3) := by decide +kernel
theorem dX12_run_16 : decode cX12_run 16 = .ok (.iload_n 3, 1) := by decide +kernel
theorem dX12_run_17 : decode cX12_run 17 = .ok (.iconst 0, 1) := by decide +kernel
theorem dX12_run_18 : decode cX12_run 18 = .ok (.iconst 1, 1) := by decide +kernel
theorem dX12_run_19 : decode cX12_run 19 = .ok (.invokestatic 69, 3) := by decide +kernel
theorem dX12_run_22 : decode cX12_run 22 = .ok (.ifCond .ne 7, 3) := by decide +kernel
theorem dX12_run_25 : decode cX12_run 25 = .ok (.ldc2_w 259, 3) := by decide +kernel
theorem dX12_run_28 : decode cX12_run 28 = .ok (.lreturn, 1) := by decide +kernel
theorem dX12_run_29 : decode cX12_run 29 = .ok (.aload_n 0, 1) := by decide +kernel
theorem dX12_run_30 : decode cX12_run 30 = .ok (.getfield 9, 3) := by decide +kernel
theorem dX12_run_33 : decode cX12_run 33 = .ok (.bipush 6, 2) := by decide +kernel
theorem dX12_run_35 : decode cX12_run 35 = .ok (.iload_n 1, 1) := by decide +kernel
theorem dX12_run_36 : decode cX12_run 36 = .ok (.iadd, 1) := by decide +kernel
theorem dX12_run_37 : decode cX12_run 37 = .ok (.iaload, 1) := by decide +kernel
theorem dX12_run_38 : decode cX12_run 38 = .ok (.iload_n 2, 1) := by decide +kernel
theorem dX12_run_39 : decode cX12_run 39 = .ok (.invokestatic 194, 3) := by decide +kernel
theorem dX12_run_42 : decode cX12_run 42 = .ok (.lstore 4, 2) := by decide +kernel
theorem dX12_run_44 : decode cX12_run 44 = .ok (.lload 4, 2) := by decide +kernel
theorem dX12_run_46 : decode cX12_run 46 = .ok (.lconst 0, 1) := by decide +kernel
theorem dX12_run_47 : decode cX12_run 47 = .ok (.lcmp, 1) := by decide +kernel
theorem dX12_run_48 : decode cX12_run 48 = .ok (.ifCond .ne 8, 3) := by decide +kernel
theorem dX12_run_51 : decode cX12_run 51 = .ok (.iload_n 3, 1) := by decide +kernel
theorem dX12_run_52 : decode cX12_run 52 = .ok (.i2l, 1) := by decide +kernel
theorem dX12_run_53 : decode cX12_run 53 = .ok (.goto 17, 3) := by decide +kernel
theorem dX12_run_56 : decode cX12_run 56 = .ok (.lload 4, 2) := by decide +kernel
theorem dX12_run_58 : decode cX12_run 58 = .ok (.aload_n 0, 1) := by decide +kernel
theorem dX12_run_59 : decode cX12_run 59 = .ok (.invokevirtual 158, 3) := by decide +kernel
theorem dX12_run_62 : decode cX12_run 62 = .ok (.iload_n 2, 1) := by decide +kernel
theorem dX12_run_63 : decode cX12_run 63 = .ok (.invokestatic 194, 3) := by decide +kernel
theorem dX12_run_66 : decode cX12_run 66 = .ok (.iload_n 3, 1) := by decide +kernel
theorem dX12_run_67 : decode cX12_run 67 = .ok (.invokestatic 261, 3) := by decide +kernel
theorem dX12_run_70 : decode cX12_run 70 = .ok (.lreturn, 1) := by decide +kernel
theorem dX12_by_0 : decode cX12_by 0 = .ok (.iload_n 1, 1) := by decide +kernel
theorem dX12_by_1 : decode cX12_by 1 = .ok (.invokestatic 73, 3) := by decide +kernel
theorem dX12_by_4 : decode cX12_by 4 = .ok (.ifCond .eq 40, 3) := by decide +kernel
theorem dX12_by_7 : decode cX12_by 7 = .ok (.iload_n 2, 1) := by decide +kernel
theorem dX12_by_8 : decode cX12_by 8 = .ok (.iconst 1, 1) := by decide +kernel
theorem dX12_by_9 : decode cX12_by 9 = .ok (.bipush 15, 2) := by decide +kernel
theorem dX12_by_11 : decode cX12_by 11 = .ok (.invokestatic 69, 3) := by decide +kernel
theorem dX12_by_14 : decode cX12_by 14 = .ok (.ifCond .eq 30, 3) := by decide +kernel
theorem dX12_by_17 : decode cX12_by 17 = .ok (.iload_n 3, 1) := by decide +kernel
theorem dX12_by_18 : decode cX12_by 18 = .ok (.iconst 0, 1) := by decide +kernel
theorem dX12_by_19 : decode cX12_by 19 = .ok (.iconst 5, 1) := by decide +kernel
theorem dX12_by_20 : decode cX12_by 20 = .ok (.invokestatic 69, 3) := by decide +kernel
theorem dX12_by_23 : decode cX12_by 23 = .ok (.ifCond .eq 21, 3) := by decide +kernel
theorem dX12_by_26 : decode cX12_by 26 = .ok (.iload 4, 2) := by decide +kernel
theorem dX12_by_28 : decode cX12_by 28 = .ok (.iconst 0, 1) := by decide +kernel
theorem dX12_by_29 : decode cX12_by 29 = .ok (.iconst 1, 1) := by decide +kernel
theorem dX12_by_30 : decode cX12_by 30 = .ok (.invokestatic 69, 3) := by decide +kernel
theorem dX12_by_33 : decode cX12_by 33 = .ok (.ifCond .eq 11, 3) := by decide +kernel
theorem dX12_by_36 : decode cX12_by 36 = .ok (.iload_n 2, 1) := by decide +kernel
theorem dX12_by_37 : decode cX12_by 37 = .ok (.aload_n 0, 1) := by decide +kernel
theorem dX12_by_38 : decode cX12_by 38 = .ok (.invokevirtual 158, 3) := by decide +kernel
theorem dX12_by_41 : decode cX12_by 41 = .ok (.if_icmp .le 7, 3) := by decide +kernel
theorem dX12_by_44 : decode cX12_by 44 = .ok (.ldc2_w 259, 3) := by decide +kernel
theorem dX12_by_47 : decode cX12_by 47 = .ok (.lreturn, 1) := by decide +kernel
theorem dX12_by_48 : decode cX12_by 48 = .ok (.aload_n 0, 1) := by decide +kernel
theorem dX12_by_49 : decode cX12_by 49 = .ok (.getfield 9, 3) := by decide +kernel
theorem dX12_by_52 : decode cX12_by 52 = .ok (.bipush 6, 2) := by decide +kernel
theorem dX12_by_54 : decode cX12_by 54 = .ok (.iload_n 1, 1) := by decide +kernel
theorem dX12_by_55 : decode cX12_by 55 = .ok (.iadd, 1) := by decide +kernel
theorem dX12_by_56 : decode cX12_by 56 = .ok (.iaload, 1) := by decide +kernel
theorem dX12_by_57 : decode cX12_by 57 = .ok (.istore 5, 2) := by decide +kernel
theorem dX12_by_59 : decode cX12_by 59 = .ok (.lconst 0, 1) := by decide +kernel
theorem dX12_by_60 : decode cX12_by 60 = .ok (.lstore 6, 2) := by decide +kernel
theorem dX12_by_62 : decode cX12_by 62 = .ok (.iload_n 3, 1) := by decide +kernel
theorem dX12_by_63 : decode cX12_by 63 = .ok (.istore 8, 2) := by decide +kernel
theorem dX12_by_65 : decode cX12_by 65 = .ok (.iload 8, 2) := by decide +kernel
theorem dX12_by_67 : decode cX12_by 67 = .ok (.iload 5, 2) := by decide +kernel
theorem dX12_by_69 : decode cX12_by 69 = .ok (.if_icmp .gt 36, 3) := by decide +kernel
theorem dX12_by_72 : decode cX12_by 72 = .ok (.lload 6, 2) := by decide +kernel
theorem dX12_by_74 : decode cX12_by 74 = .ok (.iload 5, 2) := by decide +kernel
theorem dX12_by_76 : decode cX12_by 76 = .ok (.iload 8, 2) := by decide +kernel
theorem dX12_by_78 : decode cX12_by 78 = .ok (.invokestatic 194, 3) := by decide +kernel
theorem dX12_by_81 : decode cX12_by 81 = .ok (.aload_n 0, 1) := by decide +kernel
theorem dX12_by_82 : decode cX12_by 82 = .ok (.invokevirtual 158, 3) := by decide +kernel
theorem dX12_by_85 : decode cX12_by 85 = .ok (.iload 5, 2) := by decide +kernel
theorem dX12_by_87 : decode cX12_by 87 = .ok (.isub, 1) := by decide +kernel
theorem dX12_by_88 : decode cX12_by 88 = .ok (.iload_n 2, 1) := by decide +kernel
theorem dX12_by_89 : decode cX12_by 89 = .ok (.iload 8, 2) := by decide +kernel
theorem dX12_by_91 : decode cX12_by 91 = .ok (.isub, 1) := by decide +kernel
theorem dX12_by_92 : decode cX12_by 92 = .ok (.invokestatic 194, 3) := by decide +kernel
theorem dX12_by_95 : decode cX12_by 95 = .ok (.lmul, 1) := by decide +kernel
theorem dX12_by_96 : decode cX12_by 96 = .ok (.ladd, 1) := by decide +kernel
theorem dX12_by_97 : decode cX12_by 97 = .ok (.lstore 6, 2) := by decide +kernel
theorem dX12_by_99 : decode cX12_by 99 = .ok (.iinc 8 1, 3) := by decide +kernel
theorem dX12_by_102 : decode cX12_by 102 = .ok (.goto (-37), 3) := by decide +kernel
theorem dX12_by_105 : decode cX12_by 105 = .ok (.lload 6, 2) := by decide +kernel
theorem dX12_by_107 : decode cX12_by 107 = .ok (.aload_n 0, 1) := by decide +kernel
theorem dX12_by_108 : decode cX12_by 108 = .ok (.invokevirtual 158, 3) := by decide +kernel
theorem dX12_by_111 : decode cX12_by 111 = .ok (.iload_n 2, 1) := by decide +kernel
theorem dX12_by_112 : decode cX12_by 112 = .ok (.invokestatic 194, 3) := by decide +kernel
theorem dX12_by_115 : decode cX12_by 115 = .ok (.iload 4, 2) := by decide +kernel
theorem dX12_by_117 : decode cX12_by 117 = .ok (.invokestatic 261, 3) := by decide +kernel
theorem dX12_by_120 : decode cX12_by 120 = .ok (.lreturn, 1) := by decide +kernel
theorem dX12_first_0 : decode cX12_first 0 = .ok (.iload_n 1, 1) := by decide +kernel
theorem dX12_first_1 : decode cX12_first 1 = .ok (.invokestatic 73, 3) := by decide +kernel
theorem dX12_first_4 : decode cX12_first 4 = .ok (.ifCond .eq 24, 3) := by decide +kernel
theorem dX12_first_7 : decode cX12_first 7 = .ok (.iload_n 2, 1) := by decide +kernel
theorem dX12_first_8 : decode cX12_first 8 = .ok (.iconst 0, 1) := by decide +kernel
theorem dX12_first_9 : decode cX12_first 9 = .ok (.iconst 1, 1) := by decide +kernel
theorem dX12_first_10 : decode cX12_first 10 = .ok (.invokestatic 69, 3) := by decide +kernel
theorem dX12_first_13 : decode cX12_first 13 = .ok (.ifCond .eq 15, 3) := by decide +kernel
theorem dX12_first_16 : decode cX12_first 16 = .ok (.aload_n 0, 1) := by decide +kernel
theorem dX12_first_17 : decode cX12_first 17 = .ok (.getfield 9, 3) := by decide +kernel
theorem dX12_first_20 : decode cX12_first 20 = .ok (.bipush 6, 2) := by decide +kernel
theorem dX12_first_22 : decode cX12_first 22 = .ok (.iload_n 1, 1) := by decide +kernel
theorem dX12_first_23 : decode cX12_first 23 = .ok (.iadd, 1) := by decide +kernel
theorem dX12_first_24 : decode cX12_first 24 = .ok (.iaload, 1) := by decide +kernel
theorem dX12_first_25 : decode cX12_first 25 = .ok (.ifCond .ne 7, 3) := by decide +kernel
theorem dX12_first_28 : decode cX12_first 28 = .ok (.ldc2_w 259, 3) := by decide +kernel
theorem dX12_first_31 : decode cX12_first 31 = .ok (.lreturn, 1) := by decide +kernel
theorem dX12_first_32 : decode cX12_first 32 = .ok (.aload_n 0, 1) := by decide +kernel
theorem dX12_first_33 : decode cX12_first 33 = .ok (.invokevirtual 158, 3) := by decide +kernel
theorem dX12_first_36 : decode cX12_first 36 = .ok (.iconst 1, 1) := by decide +kernel
theorem dX12_first_37 : decode cX12_first 37 = .ok (.iadd, 1) := by decide +kernel
theorem dX12_first_38 : decode cX12_first 38 = .ok (.i2l, 1) := by decide +kernel
theorem dX12_first_39 : decode cX12_first 39 = .ok (.aload_n 0, 1) := by decide +kernel
theorem dX12_first_40 : decode cX12_first 40 = .ok (.getfield 9, 3) := by decide +kernel
theorem dX12_first_43 : decode cX12_first 43 = .ok (.bipush 6, 2) := by decide +kernel
theorem dX12_first_45 : decode cX12_first 45 = .ok (.iload_n 1, 1) := by decide +kernel
theorem dX12_first_46 : decode cX12_first 46 = .ok (.iadd, 1) := by decide +kernel
theorem dX12_first_47 : decode cX12_first 47 = .ok (.iaload, 1) := by decide +kernel
theorem dX12_first_48 : decode cX12_first 48 = .ok (.iconst 1, 1) := by decide +kernel
theorem dX12_first_49 : decode cX12_first 49 = .ok (.iadd, 1) := by decide +kernel
theorem dX12_first_50 : decode cX12_first 50 = .ok (.i2l, 1) := by decide +kernel
theorem dX12_first_51 : decode cX12_first 51 = .ok (.iload_n 2, 1) := by decide +kernel
theorem dX12_first_52 : decode cX12_first 52 = .ok (.invokestatic 261, 3) := by decide +kernel
theorem dX12_first_55 : decode cX12_first 55 = .ok (.lreturn, 1) := by decide +kernel
theorem dX12_before_0 : decode cX12_before 0 = .ok (.iload_n 1, 1) := by decide +kernel
theorem dX12_before_1 : decode cX12_before 1 = .ok (.invokestatic 73, 3) := by decide +kernel
theorem dX12_before_4 : decode cX12_before 4 = .ok (.ifCond .eq 46, 3) := by decide +kernel
theorem dX12_before_7 : decode cX12_before 7 = .ok (.iload_n 2, 1) := by decide +kernel
theorem dX12_before_8 : decode cX12_before 8 = .ok (.invokestatic 73, 3) := by decide +kernel
theorem dX12_before_11 : decode cX12_before 11 = .ok (.ifCond .eq 39, 3) := by decide +kernel
theorem dX12_before_14 : decode cX12_before 14 = .ok (.iload_n 1, 1) := by decide +kernel
theorem dX12_before_15 : decode cX12_before 15 = .ok (.iload_n 2, 1) := by decide +kernel
theorem dX12_before_16 : decode cX12_before 16 = .ok (.if_icmp .eq 34, 3) := by decide +kernel
theorem dX12_before_19 : decode cX12_before 19 = .ok (.iload_n 3, 1) := by decide +kernel
theorem dX12_before_20 : decode cX12_before 20 = .ok (.iconst 0, 1) := by decide +kernel
theorem dX12_before_21 : decode cX12_before 21 = .ok (.iconst 1, 1) := by decide +kernel
theorem dX12_before_22 : decode cX12_before 22 = .ok (.invokestatic 69, 3) := by decide +kernel
theorem dX12_before_25 : decode cX12_before 25 = .ok (.ifCond .eq 25, 3) := by decide +kernel
theorem dX12_before_28 : decode cX12_before 28 = .ok (.aload_n 0, 1) := by decide +kernel
theorem dX12_before_29 : decode cX12_before 29 = .ok (.getfield 9, 3) := by decide +kernel
theorem dX12_before_32 : decode cX12_before 32 = .ok (.bipush 6, 2) := by decide +kernel
theorem dX12_before_34 : decode cX12_before 34 = .ok (.iload_n 1, 1) := by decide +kernel
theorem dX12_before_35 : decode cX12_before 35 = .ok (.iadd, 1) := by decide +kernel
theorem dX12_before_36 : decode cX12_before 36 = .ok (.iaload, 1) := by decide +kernel
theorem dX12_before_37 : decode cX12_before 37 = .ok (.aload_n 0, 1) := by decide +kernel
theorem dX12_before_38 : decode cX12_before 38 = .ok (.getfield 9, 3) := by decide +kernel
theorem dX12_before_41 : decode cX12_before 41 = .ok (.bipush 6, 2) := by decide +kernel
theorem dX12_before_43 : decode cX12_before 43 = .ok (.iload_n 2, 1) := by decide +kernel
theorem dX12_before_44 : decode cX12_before 44 = .ok (.iadd, 1) := by decide +kernel
theorem dX12_before_45 : decode cX12_before 45 = .ok (.iaload, 1) := by decide +kernel
theorem dX12_before_46 : decode cX12_before 46 = .ok (.iadd, 1) := by decide +kernel
theorem dX12_before_47 : decode cX12_before 47 = .ok (.ifCond .ne 7, 3) := by decide +kernel
theorem dX12_before_50 : decode cX12_before 50 = .ok (.ldc2_w 259, 3) := by decide +kernel
theorem dX12_before_53 : decode cX12_before 53 = .ok (.lreturn, 1) := by decide +kernel
theorem dX12_before_54 : decode cX12_before 54 = .ok (.aload_n 0, 1) := by decide +kernel
theorem dX12_before_55 : decode cX12_before 55 = .ok (.getfield 9, 3) := by decide +kernel
theorem dX12_before_58 : decode cX12_before 58 = .ok (.bipush 6, 2) := by decide +kernel
theorem dX12_before_60 : decode cX12_before 60 = .ok (.iload_n 1, 1) := by decide +kernel
theorem dX12_before_61 : decode cX12_before 61 = .ok (.iadd, 1) := by decide +kernel
theorem dX12_before_62 : decode cX12_before 62 = .ok (.iaload, 1) := by decide +kernel
theorem dX12_before_63 : decode cX12_before 63 = .ok (.i2l, 1) := by decide +kernel
theorem dX12_before_64 : decode cX12_before 64 = .ok (.aload_n 0, 1) := by decide +kernel
theorem dX12_before_65 : decode cX12_before 65 = .ok (.getfield 9, 3) := by decide +kernel
theorem dX12_before_68 : decode cX12_before 68 = .ok (.bipush 6, 2) := by decide +kernel
theorem dX12_before_70 : decode cX12_before 70 = .ok (.iload_n 1, 1) := by decide +kernel
theorem dX12_before_71 : decode cX12_before 71 = .ok (.iadd, 1) := by decide +kernel
theorem dX12_before_72 : decode cX12_before 72 = .ok (.iaload, 1) := by decide +kernel
theorem dX12_before_73 : decode cX12_before 73 = .ok (.aload_n 0, 1) := by decide +kernel
theorem dX12_before_74 : decode cX12_before 74 = .ok (.getfield 9, 3) := by decide +kernel
theorem dX12_before_77 : decode cX12_before 77 = .ok (.bipush 6, 2) := by decide +kernel
theorem dX12_before_79 : decode cX12_before 79 = .ok (.iload_n 2, 1) := by decide +kernel
theorem dX12_before_80 : decode cX12_before 80 = .ok (.iadd, 1) := by decide +kernel
theorem dX12_before_81 : decode cX12_before 81 = .ok (.iaload, 1) := by decide +kernel
theorem dX12_before_82 : decode cX12_before 82 = .ok (.iadd, 1) := by decide +kernel
theorem dX12_before_83 : decode cX12_before 83 = .ok (.i2l, 1) := by decide +kernel
theorem dX12_before_84 : decode cX12_before 84 = .ok (.iload_n 3, 1) := by decide +kernel
theorem dX12_before_85 : decode cX12_before 85 = .ok (.invokestatic 261, 3) := by decide +kernel
theorem dX12_before_88 : decode cX12_before 88 = .ok (.lreturn, 1) := by decide +kernel
theorem dX12_orders_0 : decode cX12_orders 0 = .ok (.aload_n 0, 1) := by decide +kernel
theorem dX12_orders_1 : decode cX12_orders 1 = .ok (.getfield 9, 3) := by decide +kernel
theorem dX12_orders_4 : decode cX12_orders 4 = .ok (.bipush 6, 2) := by decide +kernel
theorem dX12_orders_6 : decode cX12_orders 6 = .ok (.iaload, 1) := by decide +kernel
theorem dX12_orders_7 : decode cX12_orders 7 = .ok (.aload_n 0, 1) := by decide +kernel
theorem dX12_orders_8 : decode cX12_orders 8 = .ok (.getfield 9, 3) := by decide +kernel
theorem dX12_orders_11 : decode cX12_orders 11 = .ok (.bipush 7, 2) := by decide +kernel
theorem dX12_orders_13 : decode cX12_orders 13 = .ok (.iaload, 1) := by decide +kernel
theorem dX12_orders_14 : decode cX12_orders 14 = .ok (.aload_n 0, 1) := by decide +kernel
theorem dX12_orders_15 : decode cX12_orders 15 = .ok (.getfield 9, 3) := by decide +kernel
theorem dX12_orders_18 : decode cX12_orders 18 = .ok (.bipush 8, 2) := by decide +kernel
theorem dX12_orders_20 : decode cX12_orders 20 = .ok (.iaload, 1) := by decide +kernel
theorem dX12_orders_21 : decode cX12_orders 21 = .ok (.invokestatic 198, 3) := by decide +kernel
theorem dX12_orders_24 : decode cX12_orders 24 = .ok (.lreturn, 1) := by decide +kernel
theorem dX12_goesThrough_0 : decode cX12_goesThrough 0 = .ok (.aload_n 0, 1) := by decide +kernel
theorem dX12_goesThrough_1 : decode cX12_goesThrough 1 = .ok (.getfield 44, 3) := by decide +kernel
theorem dX12_goesThrough_4 : decode cX12_goesThrough 4 = .ok (.iload_n 2, 1) := by decide +kernel
theorem dX12_goesThrough_5 : decode cX12_goesThrough 5 = .ok (.iaload, 1) := by decide +kernel
theorem dX12_goesThrough_6 : decode cX12_goesThrough 6 = .ok (.aload_n 0, 1) := by decide +kernel
theorem dX12_goesThrough_7 : decode cX12_goesThrough 7 = .ok (.getfield 188, 3) := by decide +kernel
theorem dX12_goesThrough_10 : decode cX12_goesThrough 10 = .ok (.if_icmp .ne 4, 3) := by decide +kernel
theorem dX12_goesThrough_13 : decode cX12_goesThrough 13 = .ok (.return_, 1) := by decide +kernel
theorem dX12_goesThrough_14 : decode cX12_goesThrough 14 = .ok (.lconst 0, 1) := by decide +kernel
theorem dX12_goesThrough_15 : decode cX12_goesThrough 15 = .ok (.lstore_n 3, 1) := by decide +kernel
theorem dX12_goesThrough_16 : decode cX12_goesThrough 16 = .ok (.iload_n 2, 1) := by decide +kernel
theorem dX12_goesThrough_17 : decode cX12_goesThrough 17 = .ok (.invokestatic 185, 3) := by decide +kernel
theorem dX12_goesThrough_20 : decode cX12_goesThrough 20 = .ok (.ifCond .ne 16, 3) := by decide +kernel
theorem dX12_goesThrough_23 : decode cX12_goesThrough 23 = .ok (.iload_n 2, 1) := by decide +kernel
theorem dX12_goesThrough_24 : decode cX12_goesThrough 24 = .ok (.bipush 27, 2) := by decide +kernel
theorem dX12_goesThrough_26 : decode cX12_goesThrough 26 = .ok (.irem, 1) := by decide +kernel
theorem dX12_goesThrough_27 : decode cX12_goesThrough 27 = .ok (.bipush 26, 2) := by decide +kernel
theorem dX12_goesThrough_29 : decode cX12_goesThrough 29 = .ok (.if_icmp .ne 7, 3) := by decide +kernel
theorem dX12_goesThrough_32 : decode cX12_goesThrough 32 = .ok (.lconst 1, 1) := by decide +kernel
theorem dX12_goesThrough_33 : decode cX12_goesThrough 33 = .ok (.goto 4, 3) := by decide +kernel
theorem dX12_goesThrough_36 : decode cX12_goesThrough 36 = .ok (.lconst 0, 1) := by decide +kernel
theorem dX12_goesThrough_37 : decode cX12_goesThrough 37 = .ok (.lstore 5, 2) := by decide +kernel
theorem dX12_goesThrough_39 : decode cX12_goesThrough 39 = .ok (.iconst 0, 1) := by decide +kernel
theorem dX12_goesThrough_40 : decode cX12_goesThrough 40 = .ok (.istore 7, 2) := by decide +kernel
theorem dX12_goesThrough_42 : decode cX12_goesThrough 42 = .ok (.iload 7, 2) := by decide +kernel
theorem dX12_goesThrough_44 : decode cX12_goesThrough 44 = .ok (.iconst 3, 1) := by decide +kernel
theorem dX12_goesThrough_45 : decode cX12_goesThrough 45 = .ok (.if_icmp .ge 91, 3) := by decide +kernel
theorem dX12_goesThrough_48 : decode cX12_goesThrough 48 = .ok (.iload_n 2, 1) := by decide +kernel
theorem dX12_goesThrough_49 : decode cX12_goesThrough 49 = .ok (.iload 7, 2) := by decide +kernel
theorem dX12_goesThrough_51 : decode cX12_goesThrough 51 = .ok (.invokestatic 172, 3) := by decide +kernel
theorem dX12_goesThrough_54 : decode cX12_goesThrough 54 = .ok (.ifCond .le 76, 3) := by decide +kernel
theorem dX12_goesThrough_57 : decode cX12_goesThrough 57 = .ok (.iload_n 2, 1) := by decide +kernel
theorem dX12_goesThrough_58 : decode cX12_goesThrough 58 = .ok (.iload 7, 2) := by decide +kernel
theorem dX12_goesThrough_60 : decode cX12_goesThrough 60 = .ok (.invokestatic 218, 3) := by decide +kernel
theorem dX12_goesThrough_63 : decode cX12_goesThrough 63 = .ok (.istore 8, 2) := by decide +kernel
theorem dX12_goesThrough_65 : decode cX12_goesThrough 65 = .ok (.aload_n 0, 1) := by decide +kernel
theorem dX12_goesThrough_66 : decode cX12_goesThrough 66 = .ok (.iload_n 1, 1) := by decide +kernel
theorem dX12_goesThrough_67 : decode cX12_goesThrough 67 = .ok (.iload 8, 2) := by decide +kernel
theorem dX12_goesThrough_69 : decode cX12_goesThrough 69 = .ok (.iload 7, 2) := by decide +kernel
theorem dX12_goesThrough_71 : decode cX12_goesThrough 71 = .ok (.invokevirtual 252, 3) := by decide +kernel
theorem dX12_goesThrough_74 : decode cX12_goesThrough 74 = .ok (.istore 9, 2) := by decide +kernel
theorem dX12_goesThrough_76 : decode cX12_goesThrough 76 = .ok (.iload 8, 2) := by decide +kernel
theorem dX12_goesThrough_78 : decode cX12_goesThrough 78 = .ok (.iload 9, 2) := by decide +kernel
theorem dX12_goesThrough_80 : decode cX12_goesThrough 80 = .ok (.invokestatic 215, 3) := by decide +kernel
theorem dX12_goesThrough_83 : decode cX12_goesThrough 83 = .ok (.istore 10, 2) := by decide +kernel
theorem dX12_goesThrough_85 : decode cX12_goesThrough 85 = .ok (.aload_n 0, 1) := by decide +kernel
theorem dX12_goesThrough_86 : decode cX12_goesThrough 86 = .ok (.iload_n 1, 1) := by decide +kernel
theorem dX12_goesThrough_87 : decode cX12_goesThrough 87 = .ok (.iload 10, 2) := by decide +kernel
theorem dX12_goesThrough_89 : decode cX12_goesThrough 89 = .ok (.invokevirtual 265, 3) := by decide +kernel
theorem dX12_goesThrough_92 : decode cX12_goesThrough 92 = .ok (.lload_n 3, 1) := by decide +kernel
theorem dX12_goesThrough_93 : decode cX12_goesThrough 93 = .ok (.iload 8, 2) := by decide +kernel
theorem dX12_goesThrough_95 : decode cX12_goesThrough 95 = .ok (.invokestatic 209, 3) := by decide +kernel
theorem dX12_goesThrough_98 : decode cX12_goesThrough 98 = .ok (.aload_n 0, 1) := by decide +kernel
theorem dX12_goesThrough_99 : decode cX12_goesThrough 99 = .ok (.iload 8, 2) := by decide +kernel
theorem dX12_goesThrough_101 : decode cX12_goesThrough 101 = .ok (.iload 9, 2) := by decide +kernel
theorem dX12_goesThrough_103 : decode cX12_goesThrough 103 = .ok (.invokevirtual 212, 3) := by decide +kernel
theorem dX12_goesThrough_106 : decode cX12_goesThrough 106 = .ok (.i2l, 1) := by decide +kernel
theorem dX12_goesThrough_107 : decode cX12_goesThrough 107 = .ok (.lmul, 1) := by decide +kernel
theorem dX12_goesThrough_108 : decode cX12_goesThrough 108 = .ok (.aload_n 0, 1) := by decide +kernel
theorem dX12_goesThrough_109 : decode cX12_goesThrough 109 = .ok (.getfield 38, 3) := by decide +kernel
theorem dX12_goesThrough_112 : decode cX12_goesThrough 112 = .ok (.iload 10, 2) := by decide +kernel
theorem dX12_goesThrough_114 : decode cX12_goesThrough 114 = .ok (.laload, 1) := by decide +kernel
theorem dX12_goesThrough_115 : decode cX12_goesThrough 115 = .ok (.ladd, 1) := by decide +kernel
theorem dX12_goesThrough_116 : decode cX12_goesThrough 116 = .ok (.ladd, 1) := by decide +kernel
theorem dX12_goesThrough_117 : decode cX12_goesThrough 117 = .ok (.lstore_n 3, 1) := by decide +kernel
theorem dX12_goesThrough_118 : decode cX12_goesThrough 118 = .ok (.lload 5, 2) := by decide +kernel
theorem dX12_goesThrough_120 : decode cX12_goesThrough 120 = .ok (.aload_n 0, 1) := by decide +kernel
theorem dX12_goesThrough_121 : decode cX12_goesThrough 121 = .ok (.getfield 41, 3) := by decide +kernel
theorem dX12_goesThrough_124 : decode cX12_goesThrough 124 = .ok (.iload 10, 2) := by decide +kernel
theorem dX12_goesThrough_126 : decode cX12_goesThrough 126 = .ok (.laload, 1) := by decide +kernel
theorem dX12_goesThrough_127 : decode cX12_goesThrough 127 = .ok (.ladd, 1) := by decide +kernel
theorem dX12_goesThrough_128 : decode cX12_goesThrough 128 = .ok (.lstore 5, 2) := by decide +kernel
theorem dX12_goesThrough_130 : decode cX12_goesThrough 130 = .ok (.iinc 7 1, 3) := by decide +kernel
theorem dX12_goesThrough_133 : decode cX12_goesThrough 133 = .ok (.goto (-91), 3) := by decide +kernel
theorem dX12_goesThrough_136 : decode cX12_goesThrough 136 = .ok (.aload_n 0, 1) := by decide +kernel
theorem dX12_goesThrough_137 : decode cX12_goesThrough 137 = .ok (.getfield 44, 3) := by decide +kernel
theorem dX12_goesThrough_140 : decode cX12_goesThrough 140 = .ok (.iload_n 2, 1) := by decide +kernel
theorem dX12_goesThrough_141 : decode cX12_goesThrough 141 = .ok (.aload_n 0, 1) := by decide +kernel
theorem dX12_goesThrough_142 : decode cX12_goesThrough 142 = .ok (.getfield 188, 3) := by decide +kernel
theorem dX12_goesThrough_145 : decode cX12_goesThrough 145 = .ok (.iastore, 1) := by decide +kernel
theorem dX12_goesThrough_146 : decode cX12_goesThrough 146 = .ok (.aload_n 0, 1) := by decide +kernel
theorem dX12_goesThrough_147 : decode cX12_goesThrough 147 = .ok (.getfield 38, 3) := by decide +kernel
theorem dX12_goesThrough_150 : decode cX12_goesThrough 150 = .ok (.iload_n 2, 1) := by decide +kernel
theorem dX12_goesThrough_151 : decode cX12_goesThrough 151 = .ok (.lload_n 3, 1) := by decide +kernel
theorem dX12_goesThrough_152 : decode cX12_goesThrough 152 = .ok (.lastore, 1) := by decide +kernel
theorem dX12_goesThrough_153 : decode cX12_goesThrough 153 = .ok (.aload_n 0, 1) := by decide +kernel
theorem dX12_goesThrough_154 : decode cX12_goesThrough 154 = .ok (.getfield 41, 3) := by decide +kernel
theorem dX12_goesThrough_157 : decode cX12_goesThrough 157 = .ok (.iload_n 2, 1) := by decide +kernel
theorem dX12_goesThrough_158 : decode cX12_goesThrough 158 = .ok (.lload 5, 2) := by decide +kernel
theorem dX12_goesThrough_160 : decode cX12_goesThrough 160 = .ok (.lastore, 1) := by decide +kernel
theorem dX12_goesThrough_161 : decode cX12_goesThrough 161 = .ok (.return_, 1) := by decide +kernel
theorem dX12_mean_0 : decode cX12_mean 0 = .ok (.aload_n 0, 1) := by decide +kernel
theorem dX12_mean_1 : decode cX12_mean 1 = .ok (.iload_n 1, 1) := by decide +kernel
theorem dX12_mean_2 : decode cX12_mean 2 = .ok (.invokevirtual 227, 3) := by decide +kernel
theorem dX12_mean_5 : decode cX12_mean 5 = .ok (.ifCond .eq 21, 3) := by decide +kernel
theorem dX12_mean_8 : decode cX12_mean 8 = .ok (.iload_n 2, 1) := by decide +kernel
theorem dX12_mean_9 : decode cX12_mean 9 = .ok (.iconst 0, 1) := by decide +kernel
theorem dX12_mean_10 : decode cX12_mean 10 = .ok (.iconst 2, 1) := by decide +kernel
theorem dX12_mean_11 : decode cX12_mean 11 = .ok (.invokestatic 69, 3) := by decide +kernel
theorem dX12_mean_14 : decode cX12_mean 14 = .ok (.ifCond .eq 12, 3) := by decide +kernel
theorem dX12_mean_17 : decode cX12_mean 17 = .ok (.iload_n 3, 1) := by decide +kernel
theorem dX12_mean_18 : decode cX12_mean 18 = .ok (.iconst 0, 1) := by decide +kernel
theorem dX12_mean_19 : decode cX12_mean 19 = .ok (.iconst 1, 1) := by decide +kernel
theorem dX12_mean_20 : decode cX12_mean 20 = .ok (.invokestatic 69, 3) := by decide +kernel
theorem dX12_mean_23 : decode cX12_mean 23 = .ok (.ifCond .ne 7, 3) := by decide +kernel
theorem dX12_mean_26 : decode cX12_mean 26 = .ok (.ldc2_w 259, 3) := by decide +kernel
theorem dX12_mean_29 : decode cX12_mean 29 = .ok (.lreturn, 1) := by decide +kernel
theorem dX12_mean_30 : decode cX12_mean 30 = .ok (.aload_n 0, 1) := by decide +kernel
theorem dX12_mean_31 : decode cX12_mean 31 = .ok (.invokevirtual 246, 3) := by decide +kernel
theorem dX12_mean_34 : decode cX12_mean 34 = .ok (.aload_n 0, 1) := by decide +kernel
theorem dX12_mean_35 : decode cX12_mean 35 = .ok (.invokevirtual 249, 3) := by decide +kernel
theorem dX12_mean_38 : decode cX12_mean 38 = .ok (.istore 4, 2) := by decide +kernel
theorem dX12_mean_40 : decode cX12_mean 40 = .ok (.aload_n 0, 1) := by decide +kernel
theorem dX12_mean_41 : decode cX12_mean 41 = .ok (.iload_n 1, 1) := by decide +kernel
theorem dX12_mean_42 : decode cX12_mean 42 = .ok (.iload 4, 2) := by decide +kernel
theorem dX12_mean_44 : decode cX12_mean 44 = .ok (.invokevirtual 265, 3) := by decide +kernel
theorem dX12_mean_47 : decode cX12_mean 47 = .ok (.iload_n 2, 1) := by decide +kernel
theorem dX12_mean_48 : decode cX12_mean 48 = .ok (.ifCond .ne 13, 3) := by decide +kernel
theorem dX12_mean_51 : decode cX12_mean 51 = .ok (.aload_n 0, 1) := by decide +kernel
theorem dX12_mean_52 : decode cX12_mean 52 = .ok (.getfield 38, 3) := by decide +kernel
theorem dX12_mean_55 : decode cX12_mean 55 = .ok (.iload 4, 2) := by decide +kernel
theorem dX12_mean_57 : decode cX12_mean 57 = .ok (.laload, 1) := by decide +kernel
theorem dX12_mean_58 : decode cX12_mean 58 = .ok (.goto 32, 3) := by decide +kernel
theorem dX12_mean_61 : decode cX12_mean 61 = .ok (.iload_n 2, 1) := by decide +kernel
theorem dX12_mean_62 : decode cX12_mean 62 = .ok (.iconst 1, 1) := by decide +kernel
theorem dX12_mean_63 : decode cX12_mean 63 = .ok (.if_icmp .ne 13, 3) := by decide +kernel
theorem dX12_mean_66 : decode cX12_mean 66 = .ok (.aload_n 0, 1) := by decide +kernel
theorem dX12_mean_67 : decode cX12_mean 67 = .ok (.getfield 41, 3) := by decide +kernel
theorem dX12_mean_70 : decode cX12_mean 70 = .ok (.iload 4, 2) := by decide +kernel
theorem dX12_mean_72 : decode cX12_mean 72 = .ok (.laload, 1) := by decide +kernel
theorem dX12_mean_73 : decode cX12_mean 73 = .ok (.goto 17, 3) := by decide +kernel
theorem dX12_mean_76 : decode cX12_mean 76 = .ok (.aload_n 0, 1) := by decide +kernel
theorem dX12_mean_77 : decode cX12_mean 77 = .ok (.iload 4, 2) := by decide +kernel
theorem dX12_mean_79 : decode cX12_mean 79 = .ok (.invokevirtual 202, 3) := by decide +kernel
theorem dX12_mean_82 : decode cX12_mean 82 = .ok (.aload_n 0, 1) := by decide +kernel
theorem dX12_mean_83 : decode cX12_mean 83 = .ok (.getfield 38, 3) := by decide +kernel
theorem dX12_mean_86 : decode cX12_mean 86 = .ok (.iload 4, 2) := by decide +kernel
theorem dX12_mean_88 : decode cX12_mean 88 = .ok (.laload, 1) := by decide +kernel
theorem dX12_mean_89 : decode cX12_mean 89 = .ok (.lsub, 1) := by decide +kernel
theorem dX12_mean_90 : decode cX12_mean 90 = .ok (.lstore 5, 2) := by decide +kernel
theorem dX12_mean_92 : decode cX12_mean 92 = .ok (.lload 5, 2) := by decide +kernel
theorem dX12_mean_94 : decode cX12_mean 94 = .ok (.iload 4, 2) := by decide +kernel
theorem dX12_mean_96 : decode cX12_mean 96 = .ok (.invokestatic 209, 3) := by decide +kernel
theorem dX12_mean_99 : decode cX12_mean 99 = .ok (.iload_n 3, 1) := by decide +kernel
theorem dX12_mean_100 : decode cX12_mean 100 = .ok (.invokestatic 261, 3) := by decide +kernel
theorem dX12_mean_103 : decode cX12_mean 103 = .ok (.lreturn, 1) := by decide +kernel
theorem dX12_today_0 : decode cX12_today 0 = .ok (.iload_n 1, 1) := by decide +kernel
theorem dX12_today_1 : decode cX12_today 1 = .ok (.invokestatic 73, 3) := by decide +kernel
theorem dX12_today_4 : decode cX12_today 4 = .ok (.ifCond .ne 5, 3) := by decide +kernel
theorem dX12_today_7 : decode cX12_today 7 = .ok (.iconst (-1), 1) := by decide +kernel
theorem dX12_today_8 : decode cX12_today 8 = .ok (.ireturn, 1) := by decide +kernel
theorem dX12_today_9 : decode cX12_today 9 = .ok (.aload_n 0, 1) := by decide +kernel
theorem dX12_today_10 : decode cX12_today 10 = .ok (.getfield 9, 3) := by decide +kernel
theorem dX12_today_13 : decode cX12_today 13 = .ok (.bipush 6, 2) := by decide +kernel
theorem dX12_today_15 : decode cX12_today 15 = .ok (.iload_n 1, 1) := by decide +kernel
theorem dX12_today_16 : decode cX12_today 16 = .ok (.iadd, 1) := by decide +kernel
theorem dX12_today_17 : decode cX12_today 17 = .ok (.iaload, 1) := by decide +kernel
theorem dX12_today_18 : decode cX12_today 18 = .ok (.ifCond .ne 6, 3) := by decide +kernel
theorem dX12_today_21 : decode cX12_today 21 = .ok (.bipush (-3), 2) := by decide +kernel
theorem dX12_today_23 : decode cX12_today 23 = .ok (.ireturn, 1) := by decide +kernel
theorem dX12_today_24 : decode cX12_today 24 = .ok (.aload_n 0, 1) := by decide +kernel
theorem dX12_today_25 : decode cX12_today 25 = .ok (.invokevirtual 246, 3) := by decide +kernel
theorem dX12_today_28 : decode cX12_today 28 = .ok (.aload_n 0, 1) := by decide +kernel
theorem dX12_today_29 : decode cX12_today 29 = .ok (.aload_n 0, 1) := by decide +kernel
theorem dX12_today_30 : decode cX12_today 30 = .ok (.invokevirtual 249, 3) := by decide +kernel
theorem dX12_today_33 : decode cX12_today 33 = .ok (.iload_n 1, 1) := by decide +kernel
theorem dX12_today_34 : decode cX12_today 34 = .ok (.invokestatic 218, 3) := by decide +kernel
theorem dX12_today_37 : decode cX12_today 37 = .ok (.iload_n 1, 1) := by decide +kernel
theorem dX12_today_38 : decode cX12_today 38 = .ok (.invokevirtual 243, 3) := by decide +kernel
theorem dX12_today_41 : decode cX12_today 41 = .ok (.istore_n 2, 1) := by decide +kernel
theorem dX12_today_42 : decode cX12_today 42 = .ok (.iload_n 2, 1) := by decide +kernel
theorem dX12_today_43 : decode cX12_today 43 = .ok (.iconst (-1), 1) := by decide +kernel
theorem dX12_today_44 : decode cX12_today 44 = .ok (.if_icmp .ne 8, 3) := by decide +kernel
theorem dX12_today_47 : decode cX12_today 47 = .ok (.bipush (-5), 2) := by decide +kernel
theorem dX12_today_49 : decode cX12_today 49 = .ok (.goto 4, 3) := by decide +kernel
theorem dX12_today_52 : decode cX12_today 52 = .ok (.iload_n 2, 1) := by decide +kernel
theorem dX12_today_53 : decode cX12_today 53 = .ok (.ireturn, 1) := by decide +kernel
theorem dX12_isSure_0 : decode cX12_isSure 0 = .ok (.iload_n 1, 1) := by decide +kernel
theorem dX12_isSure_1 : decode cX12_isSure 1 = .ok (.iload_n 2, 1) := by decide +kernel
theorem dX12_isSure_2 : decode cX12_isSure 2 = .ok (.invokestatic 182, 3) := by decide +kernel
theorem dX12_isSure_5 : decode cX12_isSure 5 = .ok (.iconst 2, 1) := by decide +kernel
theorem dX12_isSure_6 : decode cX12_isSure 6 = .ok (.if_icmp .ne 5, 3) := by decide +kernel
theorem dX12_isSure_9 : decode cX12_isSure 9 = .ok (.iconst 1, 1) := by decide +kernel
theorem dX12_isSure_10 : decode cX12_isSure 10 = .ok (.ireturn, 1) := by decide +kernel
theorem dX12_isSure_11 : decode cX12_isSure 11 = .ok (.aload_n 0, 1) := by decide +kernel
theorem dX12_isSure_12 : decode cX12_isSure 12 = .ok (.getfield 47, 3) := by decide +kernel
theorem dX12_isSure_15 : decode cX12_isSure 15 = .ok (.iload_n 1, 1) := by decide +kernel
theorem dX12_isSure_16 : decode cX12_isSure 16 = .ok (.iaload, 1) := by decide +kernel
theorem dX12_isSure_17 : decode cX12_isSure 17 = .ok (.ifCond .eq 19, 3) := by decide +kernel
theorem dX12_isSure_20 : decode cX12_isSure 20 = .ok (.aload_n 0, 1) := by decide +kernel
theorem dX12_isSure_21 : decode cX12_isSure 21 = .ok (.getfield 47, 3) := by decide +kernel
theorem dX12_isSure_24 : decode cX12_isSure 24 = .ok (.iload_n 1, 1) := by decide +kernel
theorem dX12_isSure_25 : decode cX12_isSure 25 = .ok (.iaload, 1) := by decide +kernel
theorem dX12_isSure_26 : decode cX12_isSure 26 = .ok (.iconst 2, 1) := by decide +kernel
theorem dX12_isSure_27 : decode cX12_isSure 27 = .ok (.if_icmp .ne 7, 3) := by decide +kernel
theorem dX12_isSure_30 : decode cX12_isSure 30 = .ok (.iconst 1, 1) := by decide +kernel
theorem dX12_isSure_31 : decode cX12_isSure 31 = .ok (.goto 4, 3) := by decide +kernel
theorem dX12_isSure_34 : decode cX12_isSure 34 = .ok (.iconst 0, 1) := by decide +kernel
theorem dX12_isSure_35 : decode cX12_isSure 35 = .ok (.ireturn, 1) := by decide +kernel
theorem dX12_isSure_36 : decode cX12_isSure 36 = .ok (.iload_n 1, 1) := by decide +kernel
theorem dX12_isSure_37 : decode cX12_isSure 37 = .ok (.invokestatic 185, 3) := by decide +kernel
theorem dX12_isSure_40 : decode cX12_isSure 40 = .ok (.ifCond .le 7, 3) := by decide +kernel
theorem dX12_isSure_43 : decode cX12_isSure 43 = .ok (.iconst 1, 1) := by decide +kernel
theorem dX12_isSure_44 : decode cX12_isSure 44 = .ok (.goto 4, 3) := by decide +kernel
theorem dX12_isSure_47 : decode cX12_isSure 47 = .ok (.iconst 0, 1) := by decide +kernel
theorem dX12_isSure_48 : decode cX12_isSure 48 = .ok (.istore_n 3, 1) := by decide +kernel
theorem dX12_isSure_49 : decode cX12_isSure 49 = .ok (.iconst 0, 1) := by decide +kernel
theorem dX12_isSure_50 : decode cX12_isSure 50 = .ok (.istore 4, 2) := by decide +kernel
theorem dX12_isSure_52 : decode cX12_isSure 52 = .ok (.iload 4, 2) := by decide +kernel
theorem dX12_isSure_54 : decode cX12_isSure 54 = .ok (.iconst 3, 1) := by decide +kernel
theorem dX12_isSure_55 : decode cX12_isSure 55 = .ok (.if_icmp .ge 59, 3) := by decide +kernel
theorem dX12_isSure_58 : decode cX12_isSure 58 = .ok (.iload_n 3, 1) := by decide +kernel
theorem dX12_isSure_59 : decode cX12_isSure 59 = .ok (.ifCond .eq 55, 3) := by decide +kernel
theorem dX12_isSure_62 : decode cX12_isSure 62 = .ok (.iload_n 1, 1) := by decide +kernel
theorem dX12_isSure_63 : decode cX12_isSure 63 = .ok (.iload 4, 2) := by decide +kernel
theorem dX12_isSure_65 : decode cX12_isSure 65 = .ok (.invokestatic 172, 3) := by decide +kernel
theorem dX12_isSure_68 : decode cX12_isSure 68 = .ok (.ifCond .le 40, 3) := by decide +kernel
theorem dX12_isSure_71 : decode cX12_isSure 71 = .ok (.iload_n 1, 1) := by decide +kernel
theorem dX12_isSure_72 : decode cX12_isSure 72 = .ok (.iload 4, 2) := by decide +kernel
theorem dX12_isSure_74 : decode cX12_isSure 74 = .ok (.invokestatic 218, 3) := by decide +kernel
theorem dX12_isSure_77 : decode cX12_isSure 77 = .ok (.istore 5, 2) := by decide +kernel
theorem dX12_isSure_79 : decode cX12_isSure 79 = .ok (.aload_n 0, 1) := by decide +kernel
theorem dX12_isSure_80 : decode cX12_isSure 80 = .ok (.aload_n 0, 1) := by decide +kernel
theorem dX12_isSure_81 : decode cX12_isSure 81 = .ok (.iload 5, 2) := by decide +kernel
theorem dX12_isSure_83 : decode cX12_isSure 83 = .ok (.iload 4, 2) := by decide +kernel
theorem dX12_isSure_85 : decode cX12_isSure 85 = .ok (.iload_n 2, 1) := by decide +kernel
theorem dX12_isSure_86 : decode cX12_isSure 86 = .ok (.invokevirtual 206, 3) := by decide +kernel
theorem dX12_isSure_89 : decode cX12_isSure 89 = .ok (.ifCond .eq 12, 3) := by decide +kernel
theorem dX12_isSure_92 : decode cX12_isSure 92 = .ok (.iload 5, 2) := by decide +kernel
theorem dX12_isSure_94 : decode cX12_isSure 94 = .ok (.iload_n 2, 1) := by decide +kernel
theorem dX12_isSure_95 : decode cX12_isSure 95 = .ok (.invokestatic 215, 3) := by decide +kernel
theorem dX12_isSure_98 : decode cX12_isSure 98 = .ok (.goto 5, 3) := by decide +kernel
theorem dX12_isSure_101 : decode cX12_isSure 101 = .ok (.iload 5, 2) := by decide +kernel
theorem dX12_isSure_103 : decode cX12_isSure 103 = .ok (.iload_n 2, 1) := by decide +kernel
theorem dX12_isSure_104 : decode cX12_isSure 104 = .ok (.invokevirtual 269, 3) := by decide +kernel
theorem dX12_isSure_107 : decode cX12_isSure 107 = .ok (.istore_n 3, 1) := by decide +kernel
theorem dX12_isSure_108 : decode cX12_isSure 108 = .ok (.iinc 4 1, 3) := by decide +kernel
theorem dX12_isSure_111 : decode cX12_isSure 111 = .ok (.goto (-59), 3) := by decide +kernel
theorem dX12_isSure_114 : decode cX12_isSure 114 = .ok (.aload_n 0, 1) := by decide +kernel
theorem dX12_isSure_115 : decode cX12_isSure 115 = .ok (.getfield 47, 3) := by decide +kernel
theorem dX12_isSure_118 : decode cX12_isSure 118 = .ok (.iload_n 1, 1) := by decide +kernel
theorem dX12_isSure_119 : decode cX12_isSure 119 = .ok (.iload_n 3, 1) := by decide +kernel
theorem dX12_isSure_120 : decode cX12_isSure 120 = .ok (.ifCond .eq 7, 3) := by decide +kernel
theorem dX12_isSure_123 : decode cX12_isSure 123 = .ok (.iconst 2, 1) := by decide +kernel
theorem dX12_isSure_124 : decode cX12_isSure 124 = .ok (.goto 4, 3) := by decide +kernel
theorem dX12_isSure_127 : decode cX12_isSure 127 = .ok (.iconst 1, 1) := by decide +kernel
theorem dX12_isSure_128 : decode cX12_isSure 128 = .ok (.iastore, 1) := by decide +kernel
theorem dX12_isSure_129 : decode cX12_isSure 129 = .ok (.iload_n 3, 1) := by decide +kernel
theorem dX12_isSure_130 : decode cX12_isSure 130 = .ok (.ireturn, 1) := by decide +kernel
theorem dX12_whatever_0 : decode cX12_whatever 0 = .ok (.aload_n 0, 1) := by decide +kernel
theorem dX12_whatever_1 : decode cX12_whatever 1 = .ok (.invokevirtual 246, 3) := by decide +kernel
theorem dX12_whatever_4 : decode cX12_whatever 4 = .ok (.iconst 0, 1) := by decide +kernel
theorem dX12_whatever_5 : decode cX12_whatever 5 = .ok (.istore_n 1, 1) := by decide +kernel
theorem dX12_whatever_6 : decode cX12_whatever 6 = .ok (.iconst 0, 1) := by decide +kernel
theorem dX12_whatever_7 : decode cX12_whatever 7 = .ok (.istore_n 2, 1) := by decide +kernel
theorem dX12_whatever_8 : decode cX12_whatever 8 = .ok (.iload_n 2, 1) := by decide +kernel
theorem dX12_whatever_9 : decode cX12_whatever 9 = .ok (.iconst 3, 1) := by decide +kernel
theorem dX12_whatever_10 : decode cX12_whatever 10 = .ok (.if_icmp .ge 53, 3) := by decide +kernel
theorem dX12_whatever_13 : decode cX12_whatever 13 = .ok (.iconst 0, 1) := by decide +kernel
theorem dX12_whatever_14 : decode cX12_whatever 14 = .ok (.istore_n 3, 1) := by decide +kernel
theorem dX12_whatever_15 : decode cX12_whatever 15 = .ok (.iload_n 3, 1) := by decide +kernel
theorem dX12_whatever_16 : decode cX12_whatever 16 = .ok (.sipush 5832, 3) := by decide +kernel
theorem dX12_whatever_19 : decode cX12_whatever 19 = .ok (.if_icmp .ge 16, 3) := by decide +kernel
theorem dX12_whatever_22 : decode cX12_whatever 22 = .ok (.aload_n 0, 1) := by decide +kernel
theorem dX12_whatever_23 : decode cX12_whatever 23 = .ok (.getfield 47, 3) := by decide +kernel
theorem dX12_whatever_26 : decode cX12_whatever 26 = .ok (.iload_n 3, 1) := by decide +kernel
theorem dX12_whatever_27 : decode cX12_whatever 27 = .ok (.iconst 0, 1) := by decide +kernel
theorem dX12_whatever_28 : decode cX12_whatever 28 = .ok (.iastore, 1) := by decide +kernel
theorem dX12_whatever_29 : decode cX12_whatever 29 = .ok (.iinc 3 1, 3) := by decide +kernel
theorem dX12_whatever_32 : decode cX12_whatever 32 = .ok (.goto (-17), 3) := by decide +kernel
theorem dX12_whatever_35 : decode cX12_whatever 35 = .ok (.iload_n 1, 1) := by decide +kernel
theorem dX12_whatever_36 : decode cX12_whatever 36 = .ok (.aload_n 0, 1) := by decide +kernel
theorem dX12_whatever_37 : decode cX12_whatever 37 = .ok (.aload_n 0, 1) := by decide +kernel
theorem dX12_whatever_38 : decode cX12_whatever 38 = .ok (.invokevirtual 249, 3) := by decide +kernel
theorem dX12_whatever_41 : decode cX12_whatever 41 = .ok (.iload_n 2, 1) := by decide +kernel
theorem dX12_whatever_42 : decode cX12_whatever 42 = .ok (.invokevirtual 269, 3) := by decide +kernel
theorem dX12_whatever_45 : decode cX12_whatever 45 = .ok (.ifCond .eq 9, 3) := by decide +kernel
theorem dX12_whatever_48 : decode cX12_whatever 48 = .ok (.iconst 1, 1) := by decide +kernel
theorem dX12_whatever_49 : decode cX12_whatever 49 = .ok (.iload_n 2, 1) := by decide +kernel
theorem dX12_whatever_50 : decode cX12_whatever 50 = .ok (.ishl, 1) := by decide +kernel
theorem dX12_whatever_51 : decode cX12_whatever 51 = .ok (.goto 4, 3) := by decide +kernel
theorem dX12_whatever_54 : decode cX12_whatever 54 = .ok (.iconst 0, 1) := by decide +kernel
theorem dX12_whatever_55 : decode cX12_whatever 55 = .ok (.ior, 1) := by decide +kernel
theorem dX12_whatever_56 : decode cX12_whatever 56 = .ok (.istore_n 1, 1) := by decide +kernel
theorem dX12_whatever_57 : decode cX12_whatever 57 = .ok (.iinc 2 1, 3) := by decide +kernel
theorem dX12_whatever_60 : decode cX12_whatever 60 = .ok (.goto (-52), 3) := by decide +kernel
theorem dX12_whatever_63 : decode cX12_whatever 63 = .ok (.iload_n 1, 1) := by decide +kernel
theorem dX12_whatever_64 : decode cX12_whatever 64 = .ok (.ireturn, 1) := by decide +kernel
theorem dX12_mostFrom_0 : decode cX12_mostFrom 0 = .ok (.aload_n 0, 1) := by decide +kernel
theorem dX12_mostFrom_1 : decode cX12_mostFrom 1 = .ok (.getfield 53, 3) := by decide +kernel
theorem dX12_mostFrom_4 : decode cX12_mostFrom 4 = .ok (.iload_n 1, 1) := by decide +kernel
theorem dX12_mostFrom_5 : decode cX12_mostFrom 5 = .ok (.iaload, 1) := by decide +kernel
theorem dX12_mostFrom_6 : decode cX12_mostFrom 6 = .ok (.aload_n 0, 1) := by decide +kernel
theorem dX12_mostFrom_7 : decode cX12_mostFrom 7 = .ok (.getfield 188, 3) := by decide +kernel
theorem dX12_mostFrom_10 : decode cX12_mostFrom 10 = .ok (.if_icmp .ne 10, 3) := by decide +kernel
theorem dX12_mostFrom_13 : decode cX12_mostFrom 13 = .ok (.aload_n 0, 1) := by decide +kernel
theorem dX12_mostFrom_14 : decode cX12_mostFrom 14 = .ok (.getfield 50, 3) := by decide +kernel
theorem dX12_mostFrom_17 : decode cX12_mostFrom 17 = .ok (.iload_n 1, 1) := by decide +kernel
theorem dX12_mostFrom_18 : decode cX12_mostFrom 18 = .ok (.iaload, 1) := by decide +kernel
theorem dX12_mostFrom_19 : decode cX12_mostFrom 19 = .ok (.ireturn, 1) := by decide +kernel
theorem dX12_mostFrom_20 : decode cX12_mostFrom 20 = .ok (.iconst 0, 1) := by decide +kernel
theorem dX12_mostFrom_21 : decode cX12_mostFrom 21 = .ok (.istore_n 2, 1) := by decide +kernel
theorem dX12_mostFrom_22 : decode cX12_mostFrom 22 = .ok (.iconst 0, 1) := by decide +kernel
theorem dX12_mostFrom_23 : decode cX12_mostFrom 23 = .ok (.istore_n 3, 1) := by decide +kernel
theorem dX12_mostFrom_24 : decode cX12_mostFrom 24 = .ok (.iload_n 3, 1) := by decide +kernel
theorem dX12_mostFrom_25 : decode cX12_mostFrom 25 = .ok (.iconst 3, 1) := by decide +kernel
theorem dX12_mostFrom_26 : decode cX12_mostFrom 26 = .ok (.if_icmp .ge 111, 3) := by decide +kernel
theorem dX12_mostFrom_29 : decode cX12_mostFrom 29 = .ok (.iload_n 1, 1) := by decide +kernel
theorem dX12_mostFrom_30 : decode cX12_mostFrom 30 = .ok (.iload_n 3, 1) := by decide +kernel
theorem dX12_mostFrom_31 : decode cX12_mostFrom 31 = .ok (.invokestatic 172, 3) := by decide +kernel
theorem dX12_mostFrom_34 : decode cX12_mostFrom 34 = .ok (.ifCond .le 97, 3) := by decide +kernel
theorem dX12_mostFrom_37 : decode cX12_mostFrom 37 = .ok (.iload_n 1, 1) := by decide +kernel
theorem dX12_mostFrom_38 : decode cX12_mostFrom 38 = .ok (.iload_n 3, 1) := by decide +kernel
theorem dX12_mostFrom_39 : decode cX12_mostFrom 39 = .ok (.invokestatic 218, 3) := by decide +kernel
theorem dX12_mostFrom_42 : decode cX12_mostFrom 42 = .ok (.istore 4, 2) := by decide +kernel
theorem dX12_mostFrom_44 : decode cX12_mostFrom 44 = .ok (.aload_n 0, 1) := by decide +kernel
theorem dX12_mostFrom_45 : decode cX12_mostFrom 45 = .ok (.iload 4, 2) := by decide +kernel
theorem dX12_mostFrom_47 : decode cX12_mostFrom 47 = .ok (.invokevirtual 273, 3) := by decide +kernel
theorem dX12_mostFrom_50 : decode cX12_mostFrom 50 = .ok (.istore 5, 2) := by decide +kernel
theorem dX12_mostFrom_52 : decode cX12_mostFrom 52 = .ok (.iload 5, 2) := by decide +kernel
theorem dX12_mostFrom_54 : decode cX12_mostFrom 54 = .ok (.iload_n 2, 1) := by decide +kernel
theorem dX12_mostFrom_55 : decode cX12_mostFrom 55 = .ok (.if_icmp .le 8, 3) := by decide +kernel
theorem dX12_mostFrom_58 : decode cX12_mostFrom 58 = .ok (.iload 5, 2) := by decide +kernel
theorem dX12_mostFrom_60 : decode cX12_mostFrom 60 = .ok (.goto 4, 3) := by decide +kernel
theorem dX12_mostFrom_63 : decode cX12_mostFrom 63 = .ok (.iload_n 2, 1) := by decide +kernel
theorem dX12_mostFrom_64 : decode cX12_mostFrom 64 = .ok (.istore_n 2, 1) := by decide +kernel
end
section
theorem dX12_mostFrom_65 : decode cX12_mostFrom 65 = .ok (.iconst 0, 1) := by decide +kernel
theorem dX12_mostFrom_66 : decode cX12_mostFrom 66 = .ok (.istore 6, 2) := by decide +kernel
theorem dX12_mostFrom_68 : decode cX12_mostFrom 68 = .ok (.iload 6, 2) := by decide +kernel
theorem dX12_mostFrom_70 : decode cX12_mostFrom 70 = .ok (.iconst 3, 1) := by decide +kernel
theorem dX12_mostFrom_71 : decode cX12_mostFrom 71 = .ok (.if_icmp .ge 60, 3) := by decide +kernel
theorem dX12_mostFrom_74 : decode cX12_mostFrom 74 = .ok (.aload_n 0, 1) := by decide +kernel
theorem dX12_mostFrom_75 : decode cX12_mostFrom 75 = .ok (.iload 4, 2) := by decide +kernel
theorem dX12_mostFrom_77 : decode cX12_mostFrom 77 = .ok (.iload_n 3, 1) := by decide +kernel
theorem dX12_mostFrom_78 : decode cX12_mostFrom 78 = .ok (.iload 6, 2) := by decide +kernel
theorem dX12_mostFrom_80 : decode cX12_mostFrom 80 = .ok (.invokevirtual 206, 3) := by decide +kernel
theorem dX12_mostFrom_83 : decode cX12_mostFrom 83 = .ok (.ifCond .eq 26, 3) := by decide +kernel
theorem dX12_mostFrom_86 : decode cX12_mostFrom 86 = .ok (.aload_n 0, 1) := by decide +kernel
theorem dX12_mostFrom_87 : decode cX12_mostFrom 87 = .ok (.iload 4, 2) := by decide +kernel
theorem dX12_mostFrom_89 : decode cX12_mostFrom 89 = .ok (.iload 6, 2) := by decide +kernel
theorem dX12_mostFrom_91 : decode cX12_mostFrom 91 = .ok (.invokevirtual 212, 3) := by decide +kernel
theorem dX12_mostFrom_94 : decode cX12_mostFrom 94 = .ok (.aload_n 0, 1) := by decide +kernel
theorem dX12_mostFrom_95 : decode cX12_mostFrom 95 = .ok (.iload 4, 2) := by decide +kernel
theorem dX12_mostFrom_97 : decode cX12_mostFrom 97 = .ok (.iload 6, 2) := by decide +kernel
theorem dX12_mostFrom_99 : decode cX12_mostFrom 99 = .ok (.invokestatic 215, 3) := by decide +kernel
theorem dX12_mostFrom_102 : decode cX12_mostFrom 102 = .ok (.invokevirtual 273, 3) := by decide +kernel
theorem dX12_mostFrom_105 : decode cX12_mostFrom 105 = .ok (.iadd, 1) := by decide +kernel
theorem dX12_mostFrom_106 : decode cX12_mostFrom 106 = .ok (.goto 4, 3) := by decide +kernel
theorem dX12_mostFrom_109 : decode cX12_mostFrom 109 = .ok (.iconst 0, 1) := by decide +kernel
theorem dX12_mostFrom_110 : decode cX12_mostFrom 110 = .ok (.istore 5, 2) := by decide +kernel
theorem dX12_mostFrom_112 : decode cX12_mostFrom 112 = .ok (.iload 5, 2) := by decide +kernel
theorem dX12_mostFrom_114 : decode cX12_mostFrom 114 = .ok (.iload_n 2, 1) := by decide +kernel
theorem dX12_mostFrom_115 : decode cX12_mostFrom 115 = .ok (.if_icmp .le 8, 3) := by decide +kernel
theorem dX12_mostFrom_118 : decode cX12_mostFrom 118 = .ok (.iload 5, 2) := by decide +kernel
theorem dX12_mostFrom_120 : decode cX12_mostFrom 120 = .ok (.goto 4, 3) := by decide +kernel
theorem dX12_mostFrom_123 : decode cX12_mostFrom 123 = .ok (.iload_n 2, 1) := by decide +kernel
theorem dX12_mostFrom_124 : decode cX12_mostFrom 124 = .ok (.istore_n 2, 1) := by decide +kernel
theorem dX12_mostFrom_125 : decode cX12_mostFrom 125 = .ok (.iinc 6 1, 3) := by decide +kernel
theorem dX12_mostFrom_128 : decode cX12_mostFrom 128 = .ok (.goto (-60), 3) := by decide +kernel
theorem dX12_mostFrom_131 : decode cX12_mostFrom 131 = .ok (.iinc 3 1, 3) := by decide +kernel
theorem dX12_mostFrom_134 : decode cX12_mostFrom 134 = .ok (.goto (-110), 3) := by decide +kernel
theorem dX12_mostFrom_137 : decode cX12_mostFrom 137 = .ok (.aload_n 0, 1) := by decide +kernel
theorem dX12_mostFrom_138 : decode cX12_mostFrom 138 = .ok (.getfield 53, 3) := by decide +kernel
theorem dX12_mostFrom_141 : decode cX12_mostFrom 141 = .ok (.iload_n 1, 1) := by decide +kernel
theorem dX12_mostFrom_142 : decode cX12_mostFrom 142 = .ok (.aload_n 0, 1) := by decide +kernel
theorem dX12_mostFrom_143 : decode cX12_mostFrom 143 = .ok (.getfield 188, 3) := by decide +kernel
theorem dX12_mostFrom_146 : decode cX12_mostFrom 146 = .ok (.iastore, 1) := by decide +kernel
theorem dX12_mostFrom_147 : decode cX12_mostFrom 147 = .ok (.aload_n 0, 1) := by decide +kernel
theorem dX12_mostFrom_148 : decode cX12_mostFrom 148 = .ok (.getfield 50, 3) := by decide +kernel
theorem dX12_mostFrom_151 : decode cX12_mostFrom 151 = .ok (.iload_n 1, 1) := by decide +kernel
theorem dX12_mostFrom_152 : decode cX12_mostFrom 152 = .ok (.iload_n 2, 1) := by decide +kernel
theorem dX12_mostFrom_153 : decode cX12_mostFrom 153 = .ok (.iastore, 1) := by decide +kernel
theorem dX12_mostFrom_154 : decode cX12_mostFrom 154 = .ok (.iload_n 2, 1) := by decide +kernel
theorem dX12_mostFrom_155 : decode cX12_mostFrom 155 = .ok (.ireturn, 1) := by decide +kernel
theorem dX12_most_0 : decode cX12_most 0 = .ok (.aload_n 0, 1) := by decide +kernel
theorem dX12_most_1 : decode cX12_most 1 = .ok (.invokevirtual 246, 3) := by decide +kernel
theorem dX12_most_4 : decode cX12_most 4 = .ok (.aload_n 0, 1) := by decide +kernel
theorem dX12_most_5 : decode cX12_most 5 = .ok (.aload_n 0, 1) := by decide +kernel
theorem dX12_most_6 : decode cX12_most 6 = .ok (.invokevirtual 249, 3) := by decide +kernel
theorem dX12_most_9 : decode cX12_most 9 = .ok (.invokevirtual 273, 3) := by decide +kernel
theorem dX12_most_12 : decode cX12_most 12 = .ok (.ireturn, 1) := by decide +kernel
theorem dX12_less_0 : decode cX12_less 0 = .ok (.lload_n 0, 1) := by decide +kernel
theorem dX12_less_1 : decode cX12_less 1 = .ok (.lload 6, 2) := by decide +kernel
theorem dX12_less_3 : decode cX12_less 3 = .ok (.lmul, 1) := by decide +kernel
theorem dX12_less_4 : decode cX12_less 4 = .ok (.lload 4, 2) := by decide +kernel
theorem dX12_less_6 : decode cX12_less 6 = .ok (.lload_n 2, 1) := by decide +kernel
theorem dX12_less_7 : decode cX12_less 7 = .ok (.lmul, 1) := by decide +kernel
theorem dX12_less_8 : decode cX12_less 8 = .ok (.lsub, 1) := by decide +kernel
theorem dX12_less_9 : decode cX12_less 9 = .ok (.lload_n 2, 1) := by decide +kernel
theorem dX12_less_10 : decode cX12_less 10 = .ok (.lload 6, 2) := by decide +kernel
theorem dX12_less_12 : decode cX12_less 12 = .ok (.lmul, 1) := by decide +kernel
theorem dX12_less_13 : decode cX12_less 13 = .ok (.iload 8, 2) := by decide +kernel
theorem dX12_less_15 : decode cX12_less 15 = .ok (.invokestatic 261, 3) := by decide +kernel
theorem dX12_less_18 : decode cX12_less 18 = .ok (.lreturn, 1) := by decide +kernel
theorem dX12_put_0 : decode cX12_put 0 = .ok (.iload_n 1, 1) := by decide +kernel
theorem dX12_put_1 : decode cX12_put 1 = .ok (.invokestatic 73, 3) := by decide +kernel
theorem dX12_put_4 : decode cX12_put 4 = .ok (.ifCond .eq 25, 3) := by decide +kernel
theorem dX12_put_7 : decode cX12_put 7 = .ok (.iload_n 2, 1) := by decide +kernel
theorem dX12_put_8 : decode cX12_put 8 = .ok (.iconst 0, 1) := by decide +kernel
theorem dX12_put_9 : decode cX12_put 9 = .ok (.iconst 1, 1) := by decide +kernel
theorem dX12_put_10 : decode cX12_put 10 = .ok (.invokestatic 69, 3) := by decide +kernel
theorem dX12_put_13 : decode cX12_put 13 = .ok (.ifCond .eq 16, 3) := by decide +kernel
theorem dX12_put_16 : decode cX12_put 16 = .ok (.aload_n 0, 1) := by decide +kernel
theorem dX12_put_17 : decode cX12_put 17 = .ok (.getfield 9, 3) := by decide +kernel
theorem dX12_put_20 : decode cX12_put 20 = .ok (.bipush 6, 2) := by decide +kernel
theorem dX12_put_22 : decode cX12_put 22 = .ok (.iload_n 1, 1) := by decide +kernel
theorem dX12_put_23 : decode cX12_put 23 = .ok (.iadd, 1) := by decide +kernel
theorem dX12_put_24 : decode cX12_put 24 = .ok (.iaload, 1) := by decide +kernel
theorem dX12_put_25 : decode cX12_put 25 = .ok (.iconst 5, 1) := by decide +kernel
theorem dX12_put_26 : decode cX12_put 26 = .ok (.if_icmp .ne 7, 3) := by decide +kernel
theorem dX12_put_29 : decode cX12_put 29 = .ok (.ldc2_w 259, 3) := by decide +kernel
theorem dX12_put_32 : decode cX12_put 32 = .ok (.lreturn, 1) := by decide +kernel
theorem dX12_put_33 : decode cX12_put 33 = .ok (.aload_n 0, 1) := by decide +kernel
theorem dX12_put_34 : decode cX12_put 34 = .ok (.invokevirtual 246, 3) := by decide +kernel
theorem dX12_put_37 : decode cX12_put 37 = .ok (.aload_n 0, 1) := by decide +kernel
theorem dX12_put_38 : decode cX12_put 38 = .ok (.aload_n 0, 1) := by decide +kernel
theorem dX12_put_39 : decode cX12_put 39 = .ok (.invokevirtual 249, 3) := by decide +kernel
theorem dX12_put_42 : decode cX12_put 42 = .ok (.invokevirtual 202, 3) := by decide +kernel
theorem dX12_put_45 : decode cX12_put 45 = .ok (.lstore_n 3, 1) := by decide +kernel
theorem dX12_put_46 : decode cX12_put 46 = .ok (.aload_n 0, 1) := by decide +kernel
theorem dX12_put_47 : decode cX12_put 47 = .ok (.invokevirtual 276, 3) := by decide +kernel
theorem dX12_put_50 : decode cX12_put 50 = .ok (.lstore 5, 2) := by decide +kernel
theorem dX12_put_52 : decode cX12_put 52 = .ok (.aload_n 0, 1) := by decide +kernel
theorem dX12_put_53 : decode cX12_put 53 = .ok (.getfield 9, 3) := by decide +kernel
theorem dX12_put_56 : decode cX12_put 56 = .ok (.bipush 6, 2) := by decide +kernel
theorem dX12_put_58 : decode cX12_put 58 = .ok (.iload_n 1, 1) := by decide +kernel
theorem dX12_put_59 : decode cX12_put 59 = .ok (.iadd, 1) := by decide +kernel
theorem dX12_put_60 : decode cX12_put 60 = .ok (.dup2, 1) := by decide +kernel
theorem dX12_put_61 : decode cX12_put 61 = .ok (.iaload, 1) := by decide +kernel
theorem dX12_put_62 : decode cX12_put 62 = .ok (.iconst 1, 1) := by decide +kernel
theorem dX12_put_63 : decode cX12_put 63 = .ok (.iadd, 1) := by decide +kernel
theorem dX12_put_64 : decode cX12_put 64 = .ok (.iastore, 1) := by decide +kernel
theorem dX12_put_65 : decode cX12_put 65 = .ok (.aload_n 0, 1) := by decide +kernel
theorem dX12_put_66 : decode cX12_put 66 = .ok (.invokevirtual 246, 3) := by decide +kernel
theorem dX12_put_69 : decode cX12_put 69 = .ok (.aload_n 0, 1) := by decide +kernel
theorem dX12_put_70 : decode cX12_put 70 = .ok (.aload_n 0, 1) := by decide +kernel
theorem dX12_put_71 : decode cX12_put 71 = .ok (.invokevirtual 249, 3) := by decide +kernel
theorem dX12_put_74 : decode cX12_put 74 = .ok (.invokevirtual 202, 3) := by decide +kernel
theorem dX12_put_77 : decode cX12_put 77 = .ok (.lstore 7, 2) := by decide +kernel
theorem dX12_put_79 : decode cX12_put 79 = .ok (.aload_n 0, 1) := by decide +kernel
theorem dX12_put_80 : decode cX12_put 80 = .ok (.invokevirtual 276, 3) := by decide +kernel
theorem dX12_put_83 : decode cX12_put 83 = .ok (.lstore 9, 2) := by decide +kernel
theorem dX12_put_85 : decode cX12_put 85 = .ok (.aload_n 0, 1) := by decide +kernel
theorem dX12_put_86 : decode cX12_put 86 = .ok (.getfield 9, 3) := by decide +kernel
theorem dX12_put_89 : decode cX12_put 89 = .ok (.bipush 6, 2) := by decide +kernel
theorem dX12_put_91 : decode cX12_put 91 = .ok (.iload_n 1, 1) := by decide +kernel
theorem dX12_put_92 : decode cX12_put 92 = .ok (.iadd, 1) := by decide +kernel
theorem dX12_put_93 : decode cX12_put 93 = .ok (.dup2, 1) := by decide +kernel
theorem dX12_put_94 : decode cX12_put 94 = .ok (.iaload, 1) := by decide +kernel
theorem dX12_put_95 : decode cX12_put 95 = .ok (.iconst 1, 1) := by decide +kernel
theorem dX12_put_96 : decode cX12_put 96 = .ok (.isub, 1) := by decide +kernel
theorem dX12_put_97 : decode cX12_put 97 = .ok (.iastore, 1) := by decide +kernel
theorem dX12_put_98 : decode cX12_put 98 = .ok (.lload 7, 2) := by decide +kernel
theorem dX12_put_100 : decode cX12_put 100 = .ok (.lload 9, 2) := by decide +kernel
theorem dX12_put_102 : decode cX12_put 102 = .ok (.lload_n 3, 1) := by decide +kernel
theorem dX12_put_103 : decode cX12_put 103 = .ok (.lload 5, 2) := by decide +kernel
theorem dX12_put_105 : decode cX12_put 105 = .ok (.iload_n 2, 1) := by decide +kernel
theorem dX12_put_106 : decode cX12_put 106 = .ok (.invokestatic 280, 3) := by decide +kernel
theorem dX12_put_109 : decode cX12_put 109 = .ok (.lreturn, 1) := by decide +kernel
theorem dX12_pass_0 : decode cX12_pass 0 = .ok (.iload_n 1, 1) := by decide +kernel
theorem dX12_pass_1 : decode cX12_pass 1 = .ok (.invokestatic 73, 3) := by decide +kernel
theorem dX12_pass_4 : decode cX12_pass 4 = .ok (.ifCond .eq 24, 3) := by decide +kernel
theorem dX12_pass_7 : decode cX12_pass 7 = .ok (.iload_n 2, 1) := by decide +kernel
theorem dX12_pass_8 : decode cX12_pass 8 = .ok (.iconst 0, 1) := by decide +kernel
theorem dX12_pass_9 : decode cX12_pass 9 = .ok (.iconst 1, 1) := by decide +kernel
theorem dX12_pass_10 : decode cX12_pass 10 = .ok (.invokestatic 69, 3) := by decide +kernel
theorem dX12_pass_13 : decode cX12_pass 13 = .ok (.ifCond .eq 15, 3) := by decide +kernel
theorem dX12_pass_16 : decode cX12_pass 16 = .ok (.aload_n 0, 1) := by decide +kernel
theorem dX12_pass_17 : decode cX12_pass 17 = .ok (.getfield 9, 3) := by decide +kernel
theorem dX12_pass_20 : decode cX12_pass 20 = .ok (.bipush 6, 2) := by decide +kernel
theorem dX12_pass_22 : decode cX12_pass 22 = .ok (.iload_n 1, 1) := by decide +kernel
theorem dX12_pass_23 : decode cX12_pass 23 = .ok (.iadd, 1) := by decide +kernel
theorem dX12_pass_24 : decode cX12_pass 24 = .ok (.iaload, 1) := by decide +kernel
theorem dX12_pass_25 : decode cX12_pass 25 = .ok (.ifCond .ne 7, 3) := by decide +kernel
theorem dX12_pass_28 : decode cX12_pass 28 = .ok (.ldc2_w 259, 3) := by decide +kernel
theorem dX12_pass_31 : decode cX12_pass 31 = .ok (.lreturn, 1) := by decide +kernel
theorem dX12_pass_32 : decode cX12_pass 32 = .ok (.aload_n 0, 1) := by decide +kernel
theorem dX12_pass_33 : decode cX12_pass 33 = .ok (.invokevirtual 246, 3) := by decide +kernel
theorem dX12_pass_36 : decode cX12_pass 36 = .ok (.aload_n 0, 1) := by decide +kernel
theorem dX12_pass_37 : decode cX12_pass 37 = .ok (.invokevirtual 249, 3) := by decide +kernel
theorem dX12_pass_40 : decode cX12_pass 40 = .ok (.iload_n 1, 1) := by decide +kernel
theorem dX12_pass_41 : decode cX12_pass 41 = .ok (.invokestatic 218, 3) := by decide +kernel
theorem dX12_pass_44 : decode cX12_pass 44 = .ok (.istore_n 3, 1) := by decide +kernel
theorem dX12_pass_45 : decode cX12_pass 45 = .ok (.aload_n 0, 1) := by decide +kernel
theorem dX12_pass_46 : decode cX12_pass 46 = .ok (.aload_n 0, 1) := by decide +kernel
theorem dX12_pass_47 : decode cX12_pass 47 = .ok (.invokevirtual 249, 3) := by decide +kernel
theorem dX12_pass_50 : decode cX12_pass 50 = .ok (.invokevirtual 202, 3) := by decide +kernel
theorem dX12_pass_53 : decode cX12_pass 53 = .ok (.aload_n 0, 1) := by decide +kernel
theorem dX12_pass_54 : decode cX12_pass 54 = .ok (.invokevirtual 276, 3) := by decide +kernel
theorem dX12_pass_57 : decode cX12_pass 57 = .ok (.aload_n 0, 1) := by decide +kernel
theorem dX12_pass_58 : decode cX12_pass 58 = .ok (.iload_n 3, 1) := by decide +kernel
theorem dX12_pass_59 : decode cX12_pass 59 = .ok (.iload_n 1, 1) := by decide +kernel
theorem dX12_pass_60 : decode cX12_pass 60 = .ok (.invokevirtual 221, 3) := by decide +kernel
theorem dX12_pass_63 : decode cX12_pass 63 = .ok (.iload_n 3, 1) := by decide +kernel
theorem dX12_pass_64 : decode cX12_pass 64 = .ok (.invokestatic 209, 3) := by decide +kernel
theorem dX12_pass_67 : decode cX12_pass 67 = .ok (.iload_n 2, 1) := by decide +kernel
theorem dX12_pass_68 : decode cX12_pass 68 = .ok (.invokestatic 280, 3) := by decide +kernel
theorem dX12_pass_71 : decode cX12_pass 71 = .ok (.lreturn, 1) := by decide +kernel
theorem dX12_cover_0 : decode cX12_cover 0 = .ok (.iload_n 1, 1) := by decide +kernel
theorem dX12_cover_1 : decode cX12_cover 1 = .ok (.invokestatic 73, 3) := by decide +kernel
theorem dX12_cover_4 : decode cX12_cover 4 = .ok (.ifCond .eq 22, 3) := by decide +kernel
theorem dX12_cover_7 : decode cX12_cover 7 = .ok (.iload_n 2, 1) := by decide +kernel
theorem dX12_cover_8 : decode cX12_cover 8 = .ok (.iconst 1, 1) := by decide +kernel
theorem dX12_cover_9 : decode cX12_cover 9 = .ok (.bipush 15, 2) := by decide +kernel
theorem dX12_cover_11 : decode cX12_cover 11 = .ok (.invokestatic 69, 3) := by decide +kernel
theorem dX12_cover_14 : decode cX12_cover 14 = .ok (.ifCond .eq 12, 3) := by decide +kernel
theorem dX12_cover_17 : decode cX12_cover 17 = .ok (.iload_n 3, 1) := by decide +kernel
theorem dX12_cover_18 : decode cX12_cover 18 = .ok (.iconst 0, 1) := by decide +kernel
theorem dX12_cover_19 : decode cX12_cover 19 = .ok (.iconst 1, 1) := by decide +kernel
theorem dX12_cover_20 : decode cX12_cover 20 = .ok (.invokestatic 69, 3) := by decide +kernel
theorem dX12_cover_23 : decode cX12_cover 23 = .ok (.ifCond .ne 7, 3) := by decide +kernel
theorem dX12_cover_26 : decode cX12_cover 26 = .ok (.ldc2_w 259, 3) := by decide +kernel
theorem dX12_cover_29 : decode cX12_cover 29 = .ok (.lreturn, 1) := by decide +kernel
theorem dX12_cover_30 : decode cX12_cover 30 = .ok (.iload_n 2, 1) := by decide +kernel
theorem dX12_cover_31 : decode cX12_cover 31 = .ok (.aload_n 0, 1) := by decide +kernel
theorem dX12_cover_32 : decode cX12_cover 32 = .ok (.invokevirtual 158, 3) := by decide +kernel
theorem dX12_cover_35 : decode cX12_cover 35 = .ok (.if_icmp .le 10, 3) := by decide +kernel
theorem dX12_cover_38 : decode cX12_cover 38 = .ok (.aload_n 0, 1) := by decide +kernel
theorem dX12_cover_39 : decode cX12_cover 39 = .ok (.invokevirtual 158, 3) := by decide +kernel
theorem dX12_cover_42 : decode cX12_cover 42 = .ok (.goto 4, 3) := by decide +kernel
theorem dX12_cover_45 : decode cX12_cover 45 = .ok (.iload_n 2, 1) := by decide +kernel
theorem dX12_cover_46 : decode cX12_cover 46 = .ok (.istore 4, 2) := by decide +kernel
theorem dX12_cover_48 : decode cX12_cover 48 = .ok (.aload_n 0, 1) := by decide +kernel
theorem dX12_cover_49 : decode cX12_cover 49 = .ok (.invokevirtual 158, 3) := by decide +kernel
theorem dX12_cover_52 : decode cX12_cover 52 = .ok (.iload 4, 2) := by decide +kernel
theorem dX12_cover_54 : decode cX12_cover 54 = .ok (.invokestatic 194, 3) := by decide +kernel
theorem dX12_cover_57 : decode cX12_cover 57 = .ok (.lstore 5, 2) := by decide +kernel
theorem dX12_cover_59 : decode cX12_cover 59 = .ok (.aload_n 0, 1) := by decide +kernel
theorem dX12_cover_60 : decode cX12_cover 60 = .ok (.invokevirtual 155, 3) := by decide +kernel
theorem dX12_cover_63 : decode cX12_cover 63 = .ok (.i2l, 1) := by decide +kernel
theorem dX12_cover_64 : decode cX12_cover 64 = .ok (.lload 5, 2) := by decide +kernel
theorem dX12_cover_66 : decode cX12_cover 66 = .ok (.aload_n 0, 1) := by decide +kernel
theorem dX12_cover_67 : decode cX12_cover 67 = .ok (.invokevirtual 158, 3) := by decide +kernel
theorem dX12_cover_70 : decode cX12_cover 70 = .ok (.aload_n 0, 1) := by decide +kernel
theorem dX12_cover_71 : decode cX12_cover 71 = .ok (.getfield 9, 3) := by decide +kernel
theorem dX12_cover_74 : decode cX12_cover 74 = .ok (.bipush 6, 2) := by decide +kernel
theorem dX12_cover_76 : decode cX12_cover 76 = .ok (.iload_n 1, 1) := by decide +kernel
theorem dX12_cover_77 : decode cX12_cover 77 = .ok (.iadd, 1) := by decide +kernel
theorem dX12_cover_78 : decode cX12_cover 78 = .ok (.iaload, 1) := by decide +kernel
theorem dX12_cover_79 : decode cX12_cover 79 = .ok (.isub, 1) := by decide +kernel
theorem dX12_cover_80 : decode cX12_cover 80 = .ok (.iload 4, 2) := by decide +kernel
theorem dX12_cover_82 : decode cX12_cover 82 = .ok (.invokestatic 194, 3) := by decide +kernel
theorem dX12_cover_85 : decode cX12_cover 85 = .ok (.lsub, 1) := by decide +kernel
theorem dX12_cover_86 : decode cX12_cover 86 = .ok (.lmul, 1) := by decide +kernel
theorem dX12_cover_87 : decode cX12_cover 87 = .ok (.lload 5, 2) := by decide +kernel
theorem dX12_cover_89 : decode cX12_cover 89 = .ok (.iload_n 3, 1) := by decide +kernel
theorem dX12_cover_90 : decode cX12_cover 90 = .ok (.invokestatic 261, 3) := by decide +kernel
theorem dX12_cover_93 : decode cX12_cover 93 = .ok (.lreturn, 1) := by decide +kernel
theorem dX12_barred_0 : decode cX12_barred 0 = .ok (.aload_n 0, 1) := by decide +kernel
theorem dX12_barred_1 : decode cX12_barred 1 = .ok (.getfield 59, 3) := by decide +kernel
theorem dX12_barred_4 : decode cX12_barred 4 = .ok (.iload_n 1, 1) := by decide +kernel
theorem dX12_barred_5 : decode cX12_barred 5 = .ok (.iaload, 1) := by decide +kernel
theorem dX12_barred_6 : decode cX12_barred 6 = .ok (.aload_n 0, 1) := by decide +kernel
theorem dX12_barred_7 : decode cX12_barred 7 = .ok (.getfield 188, 3) := by decide +kernel
theorem dX12_barred_10 : decode cX12_barred 10 = .ok (.if_icmp .ne 10, 3) := by decide +kernel
theorem dX12_barred_13 : decode cX12_barred 13 = .ok (.aload_n 0, 1) := by decide +kernel
theorem dX12_barred_14 : decode cX12_barred 14 = .ok (.getfield 56, 3) := by decide +kernel
theorem dX12_barred_17 : decode cX12_barred 17 = .ok (.iload_n 1, 1) := by decide +kernel
theorem dX12_barred_18 : decode cX12_barred 18 = .ok (.laload, 1) := by decide +kernel
theorem dX12_barred_19 : decode cX12_barred 19 = .ok (.lreturn, 1) := by decide +kernel
theorem dX12_barred_20 : decode cX12_barred 20 = .ok (.lconst 0, 1) := by decide +kernel
theorem dX12_barred_21 : decode cX12_barred 21 = .ok (.lstore_n 3, 1) := by decide +kernel
theorem dX12_barred_22 : decode cX12_barred 22 = .ok (.iconst 0, 1) := by decide +kernel
theorem dX12_barred_23 : decode cX12_barred 23 = .ok (.istore 5, 2) := by decide +kernel
theorem dX12_barred_25 : decode cX12_barred 25 = .ok (.iload 5, 2) := by decide +kernel
theorem dX12_barred_27 : decode cX12_barred 27 = .ok (.iconst 3, 1) := by decide +kernel
theorem dX12_barred_28 : decode cX12_barred 28 = .ok (.if_icmp .ge 140, 3) := by decide +kernel
theorem dX12_barred_31 : decode cX12_barred 31 = .ok (.iload_n 1, 1) := by decide +kernel
theorem dX12_barred_32 : decode cX12_barred 32 = .ok (.iload 5, 2) := by decide +kernel
theorem dX12_barred_34 : decode cX12_barred 34 = .ok (.invokestatic 172, 3) := by decide +kernel
theorem dX12_barred_37 : decode cX12_barred 37 = .ok (.ifCond .le 125, 3) := by decide +kernel
theorem dX12_barred_40 : decode cX12_barred 40 = .ok (.iload_n 1, 1) := by decide +kernel
theorem dX12_barred_41 : decode cX12_barred 41 = .ok (.iload 5, 2) := by decide +kernel
theorem dX12_barred_43 : decode cX12_barred 43 = .ok (.invokestatic 218, 3) := by decide +kernel
theorem dX12_barred_46 : decode cX12_barred 46 = .ok (.istore 6, 2) := by decide +kernel
theorem dX12_barred_48 : decode cX12_barred 48 = .ok (.iload 5, 2) := by decide +kernel
theorem dX12_barred_50 : decode cX12_barred 50 = .ok (.iload_n 2, 1) := by decide +kernel
theorem dX12_barred_51 : decode cX12_barred 51 = .ok (.if_icmp .ne 12, 3) := by decide +kernel
theorem dX12_barred_54 : decode cX12_barred 54 = .ok (.aload_n 0, 1) := by decide +kernel
theorem dX12_barred_55 : decode cX12_barred 55 = .ok (.iload 6, 2) := by decide +kernel
theorem dX12_barred_57 : decode cX12_barred 57 = .ok (.invokevirtual 202, 3) := by decide +kernel
theorem dX12_barred_60 : decode cX12_barred 60 = .ok (.goto 10, 3) := by decide +kernel
theorem dX12_barred_63 : decode cX12_barred 63 = .ok (.aload_n 0, 1) := by decide +kernel
theorem dX12_barred_64 : decode cX12_barred 64 = .ok (.iload 6, 2) := by decide +kernel
theorem dX12_barred_66 : decode cX12_barred 66 = .ok (.iload_n 2, 1) := by decide +kernel
theorem dX12_barred_67 : decode cX12_barred 67 = .ok (.invokevirtual 284, 3) := by decide +kernel
theorem dX12_barred_70 : decode cX12_barred 70 = .ok (.lstore 7, 2) := by decide +kernel
theorem dX12_barred_72 : decode cX12_barred 72 = .ok (.iconst 0, 1) := by decide +kernel
theorem dX12_barred_73 : decode cX12_barred 73 = .ok (.istore 9, 2) := by decide +kernel
theorem dX12_barred_75 : decode cX12_barred 75 = .ok (.iload 9, 2) := by decide +kernel
theorem dX12_barred_77 : decode cX12_barred 77 = .ok (.iconst 3, 1) := by decide +kernel
theorem dX12_barred_78 : decode cX12_barred 78 = .ok (.if_icmp .ge 79, 3) := by decide +kernel
theorem dX12_barred_81 : decode cX12_barred 81 = .ok (.iload 5, 2) := by decide +kernel
theorem dX12_barred_83 : decode cX12_barred 83 = .ok (.iload_n 2, 1) := by decide +kernel
theorem dX12_barred_84 : decode cX12_barred 84 = .ok (.if_icmp .eq 73, 3) := by decide +kernel
theorem dX12_barred_87 : decode cX12_barred 87 = .ok (.aload_n 0, 1) := by decide +kernel
theorem dX12_barred_88 : decode cX12_barred 88 = .ok (.iload 6, 2) := by decide +kernel
theorem dX12_barred_90 : decode cX12_barred 90 = .ok (.iload 5, 2) := by decide +kernel
theorem dX12_barred_92 : decode cX12_barred 92 = .ok (.iload 9, 2) := by decide +kernel
theorem dX12_barred_94 : decode cX12_barred 94 = .ok (.invokevirtual 206, 3) := by decide +kernel
theorem dX12_barred_97 : decode cX12_barred 97 = .ok (.ifCond .eq 34, 3) := by decide +kernel
theorem dX12_barred_100 : decode cX12_barred 100 = .ok (.iload 6, 2) := by decide +kernel
theorem dX12_barred_102 : decode cX12_barred 102 = .ok (.invokestatic 209, 3) := by decide +kernel
theorem dX12_barred_105 : decode cX12_barred 105 = .ok (.aload_n 0, 1) := by decide +kernel
theorem dX12_barred_106 : decode cX12_barred 106 = .ok (.iload 6, 2) := by decide +kernel
theorem dX12_barred_108 : decode cX12_barred 108 = .ok (.iload 9, 2) := by decide +kernel
theorem dX12_barred_110 : decode cX12_barred 110 = .ok (.invokevirtual 212, 3) := by decide +kernel
theorem dX12_barred_113 : decode cX12_barred 113 = .ok (.i2l, 1) := by decide +kernel
theorem dX12_barred_114 : decode cX12_barred 114 = .ok (.lmul, 1) := by decide +kernel
theorem dX12_barred_115 : decode cX12_barred 115 = .ok (.aload_n 0, 1) := by decide +kernel
theorem dX12_barred_116 : decode cX12_barred 116 = .ok (.iload 6, 2) := by decide +kernel
theorem dX12_barred_118 : decode cX12_barred 118 = .ok (.iload 9, 2) := by decide +kernel
theorem dX12_barred_120 : decode cX12_barred 120 = .ok (.invokestatic 215, 3) := by decide +kernel
theorem dX12_barred_123 : decode cX12_barred 123 = .ok (.iload_n 2, 1) := by decide +kernel
theorem dX12_barred_124 : decode cX12_barred 124 = .ok (.invokevirtual 284, 3) := by decide +kernel
theorem dX12_barred_127 : decode cX12_barred 127 = .ok (.ladd, 1) := by decide +kernel
theorem dX12_barred_128 : decode cX12_barred 128 = .ok (.goto 4, 3) := by decide +kernel
theorem dX12_barred_131 : decode cX12_barred 131 = .ok (.lconst 0, 1) := by decide +kernel
theorem dX12_barred_132 : decode cX12_barred 132 = .ok (.lstore 10, 2) := by decide +kernel
theorem dX12_barred_134 : decode cX12_barred 134 = .ok (.lload 10, 2) := by decide +kernel
theorem dX12_barred_136 : decode cX12_barred 136 = .ok (.lload 7, 2) := by decide +kernel
theorem dX12_barred_138 : decode cX12_barred 138 = .ok (.lcmp, 1) := by decide +kernel
theorem dX12_barred_139 : decode cX12_barred 139 = .ok (.ifCond .le 8, 3) := by decide +kernel
theorem dX12_barred_142 : decode cX12_barred 142 = .ok (.lload 10, 2) := by decide +kernel
theorem dX12_barred_144 : decode cX12_barred 144 = .ok (.goto 5, 3) := by decide +kernel
theorem dX12_barred_147 : decode cX12_barred 147 = .ok (.lload 7, 2) := by decide +kernel
theorem dX12_barred_149 : decode cX12_barred 149 = .ok (.lstore 7, 2) := by decide +kernel
theorem dX12_barred_151 : decode cX12_barred 151 = .ok (.iinc 9 1, 3) := by decide +kernel
theorem dX12_barred_154 : decode cX12_barred 154 = .ok (.goto (-79), 3) := by decide +kernel
theorem dX12_barred_157 : decode cX12_barred 157 = .ok (.lload_n 3, 1) := by decide +kernel
theorem dX12_barred_158 : decode cX12_barred 158 = .ok (.lload 7, 2) := by decide +kernel
theorem dX12_barred_160 : decode cX12_barred 160 = .ok (.ladd, 1) := by decide +kernel
theorem dX12_barred_161 : decode cX12_barred 161 = .ok (.lstore_n 3, 1) := by decide +kernel
theorem dX12_barred_162 : decode cX12_barred 162 = .ok (.iinc 5 1, 3) := by decide +kernel
theorem dX12_barred_165 : decode cX12_barred 165 = .ok (.goto (-140), 3) := by decide +kernel
theorem dX12_barred_168 : decode cX12_barred 168 = .ok (.aload_n 0, 1) := by decide +kernel
theorem dX12_barred_169 : decode cX12_barred 169 = .ok (.getfield 59, 3) := by decide +kernel
theorem dX12_barred_172 : decode cX12_barred 172 = .ok (.iload_n 1, 1) := by decide +kernel
theorem dX12_barred_173 : decode cX12_barred 173 = .ok (.aload_n 0, 1) := by decide +kernel
theorem dX12_barred_174 : decode cX12_barred 174 = .ok (.getfield 188, 3) := by decide +kernel
theorem dX12_barred_177 : decode cX12_barred 177 = .ok (.iastore, 1) := by decide +kernel
theorem dX12_barred_178 : decode cX12_barred 178 = .ok (.aload_n 0, 1) := by decide +kernel
theorem dX12_barred_179 : decode cX12_barred 179 = .ok (.getfield 56, 3) := by decide +kernel
theorem dX12_barred_182 : decode cX12_barred 182 = .ok (.iload_n 1, 1) := by decide +kernel
theorem dX12_barred_183 : decode cX12_barred 183 = .ok (.lload_n 3, 1) := by decide +kernel
theorem dX12_barred_184 : decode cX12_barred 184 = .ok (.lastore, 1) := by decide +kernel
theorem dX12_barred_185 : decode cX12_barred 185 = .ok (.lload_n 3, 1) := by decide +kernel
theorem dX12_barred_186 : decode cX12_barred 186 = .ok (.lreturn, 1) := by decide +kernel
theorem dX12_right_0 : decode cX12_right 0 = .ok (.iload_n 1, 1) := by decide +kernel
theorem dX12_right_1 : decode cX12_right 1 = .ok (.invokestatic 73, 3) := by decide +kernel
theorem dX12_right_4 : decode cX12_right 4 = .ok (.ifCond .eq 24, 3) := by decide +kernel
theorem dX12_right_7 : decode cX12_right 7 = .ok (.iload_n 2, 1) := by decide +kernel
theorem dX12_right_8 : decode cX12_right 8 = .ok (.iconst 0, 1) := by decide +kernel
theorem dX12_right_9 : decode cX12_right 9 = .ok (.iconst 1, 1) := by decide +kernel
theorem dX12_right_10 : decode cX12_right 10 = .ok (.invokestatic 69, 3) := by decide +kernel
theorem dX12_right_13 : decode cX12_right 13 = .ok (.ifCond .eq 15, 3) := by decide +kernel
theorem dX12_right_16 : decode cX12_right 16 = .ok (.aload_n 0, 1) := by decide +kernel
theorem dX12_right_17 : decode cX12_right 17 = .ok (.getfield 9, 3) := by decide +kernel
theorem dX12_right_20 : decode cX12_right 20 = .ok (.bipush 6, 2) := by decide +kernel
theorem dX12_right_22 : decode cX12_right 22 = .ok (.iload_n 1, 1) := by decide +kernel
theorem dX12_right_23 : decode cX12_right 23 = .ok (.iadd, 1) := by decide +kernel
theorem dX12_right_24 : decode cX12_right 24 = .ok (.iaload, 1) := by decide +kernel
theorem dX12_right_25 : decode cX12_right 25 = .ok (.ifCond .ne 7, 3) := by decide +kernel
theorem dX12_right_28 : decode cX12_right 28 = .ok (.ldc2_w 259, 3) := by decide +kernel
theorem dX12_right_31 : decode cX12_right 31 = .ok (.lreturn, 1) := by decide +kernel
theorem dX12_right_32 : decode cX12_right 32 = .ok (.aload_n 0, 1) := by decide +kernel
theorem dX12_right_33 : decode cX12_right 33 = .ok (.invokevirtual 246, 3) := by decide +kernel
theorem dX12_right_36 : decode cX12_right 36 = .ok (.aload_n 0, 1) := by decide +kernel
theorem dX12_right_37 : decode cX12_right 37 = .ok (.aload_n 0, 1) := by decide +kernel
theorem dX12_right_38 : decode cX12_right 38 = .ok (.invokevirtual 249, 3) := by decide +kernel
theorem dX12_right_41 : decode cX12_right 41 = .ok (.invokevirtual 202, 3) := by decide +kernel
theorem dX12_right_44 : decode cX12_right 44 = .ok (.aload_n 0, 1) := by decide +kernel
theorem dX12_right_45 : decode cX12_right 45 = .ok (.aload_n 0, 1) := by decide +kernel
theorem dX12_right_46 : decode cX12_right 46 = .ok (.invokevirtual 249, 3) := by decide +kernel
theorem dX12_right_49 : decode cX12_right 49 = .ok (.iload_n 1, 1) := by decide +kernel
theorem dX12_right_50 : decode cX12_right 50 = .ok (.invokevirtual 284, 3) := by decide +kernel
theorem dX12_right_53 : decode cX12_right 53 = .ok (.lsub, 1) := by decide +kernel
theorem dX12_right_54 : decode cX12_right 54 = .ok (.aload_n 0, 1) := by decide +kernel
theorem dX12_right_55 : decode cX12_right 55 = .ok (.invokevirtual 276, 3) := by decide +kernel
theorem dX12_right_58 : decode cX12_right 58 = .ok (.iload_n 2, 1) := by decide +kernel
theorem dX12_right_59 : decode cX12_right 59 = .ok (.invokestatic 261, 3) := by decide +kernel
theorem dX12_right_62 : decode cX12_right 62 = .ok (.lreturn, 1) := by decide +kernel
theorem dX12_book_0 : decode cX12_book 0 = .ok (.iload_n 1, 1) := by decide +kernel
theorem dX12_book_1 : decode cX12_book 1 = .ok (.iconst (-1), 1) := by decide +kernel
theorem dX12_book_2 : decode cX12_book 2 = .ok (.if_icmp .ne 12, 3) := by decide +kernel
theorem dX12_book_5 : decode cX12_book 5 = .ok (.aload_n 0, 1) := by decide +kernel
theorem dX12_book_6 : decode cX12_book 6 = .ok (.getfield 9, 3) := by decide +kernel
theorem dX12_book_9 : decode cX12_book 9 = .ok (.iconst 2, 1) := by decide +kernel
theorem dX12_book_10 : decode cX12_book 10 = .ok (.iconst 0, 1) := by decide +kernel
theorem dX12_book_11 : decode cX12_book 11 = .ok (.iastore, 1) := by decide +kernel
theorem dX12_book_12 : decode cX12_book 12 = .ok (.iconst 0, 1) := by decide +kernel
theorem dX12_book_13 : decode cX12_book 13 = .ok (.ireturn, 1) := by decide +kernel
theorem dX12_book_14 : decode cX12_book 14 = .ok (.iload_n 1, 1) := by decide +kernel
theorem dX12_book_15 : decode cX12_book 15 = .ok (.invokestatic 73, 3) := by decide +kernel
theorem dX12_book_18 : decode cX12_book 18 = .ok (.ifCond .ne 5, 3) := by decide +kernel
theorem dX12_book_21 : decode cX12_book 21 = .ok (.iconst (-1), 1) := by decide +kernel
theorem dX12_book_22 : decode cX12_book 22 = .ok (.ireturn, 1) := by decide +kernel
theorem dX12_book_23 : decode cX12_book 23 = .ok (.aload_n 0, 1) := by decide +kernel
theorem dX12_book_24 : decode cX12_book 24 = .ok (.getfield 9, 3) := by decide +kernel
theorem dX12_book_27 : decode cX12_book 27 = .ok (.iconst 2, 1) := by decide +kernel
theorem dX12_book_28 : decode cX12_book 28 = .ok (.iaload, 1) := by decide +kernel
theorem dX12_book_29 : decode cX12_book 29 = .ok (.bipush 12, 2) := by decide +kernel
theorem dX12_book_31 : decode cX12_book 31 = .ok (.if_icmp .ne 6, 3) := by decide +kernel
theorem dX12_book_34 : decode cX12_book 34 = .ok (.bipush (-4), 2) := by decide +kernel
theorem dX12_book_36 : decode cX12_book 36 = .ok (.ireturn, 1) := by decide +kernel
theorem dX12_book_37 : decode cX12_book 37 = .ok (.aload_n 0, 1) := by decide +kernel
theorem dX12_book_38 : decode cX12_book 38 = .ok (.getfield 9, 3) := by decide +kernel
theorem dX12_book_41 : decode cX12_book 41 = .ok (.sipush 152, 3) := by decide +kernel
theorem dX12_book_44 : decode cX12_book 44 = .ok (.aload_n 0, 1) := by decide +kernel
theorem dX12_book_45 : decode cX12_book 45 = .ok (.getfield 9, 3) := by decide +kernel
theorem dX12_book_48 : decode cX12_book 48 = .ok (.iconst 2, 1) := by decide +kernel
theorem dX12_book_49 : decode cX12_book 49 = .ok (.iaload, 1) := by decide +kernel
theorem dX12_book_50 : decode cX12_book 50 = .ok (.iadd, 1) := by decide +kernel
theorem dX12_book_51 : decode cX12_book 51 = .ok (.iload_n 1, 1) := by decide +kernel
theorem dX12_book_52 : decode cX12_book 52 = .ok (.iastore, 1) := by decide +kernel
theorem dX12_book_53 : decode cX12_book 53 = .ok (.aload_n 0, 1) := by decide +kernel
theorem dX12_book_54 : decode cX12_book 54 = .ok (.getfield 9, 3) := by decide +kernel
theorem dX12_book_57 : decode cX12_book 57 = .ok (.iconst 2, 1) := by decide +kernel
theorem dX12_book_58 : decode cX12_book 58 = .ok (.dup2, 1) := by decide +kernel
theorem dX12_book_59 : decode cX12_book 59 = .ok (.iaload, 1) := by decide +kernel
theorem dX12_book_60 : decode cX12_book 60 = .ok (.iconst 1, 1) := by decide +kernel
theorem dX12_book_61 : decode cX12_book 61 = .ok (.iadd, 1) := by decide +kernel
theorem dX12_book_62 : decode cX12_book 62 = .ok (.iastore, 1) := by decide +kernel
theorem dX12_book_63 : decode cX12_book 63 = .ok (.aload_n 0, 1) := by decide +kernel
theorem dX12_book_64 : decode cX12_book 64 = .ok (.getfield 9, 3) := by decide +kernel
theorem dX12_book_67 : decode cX12_book 67 = .ok (.iconst 2, 1) := by decide +kernel
theorem dX12_book_68 : decode cX12_book 68 = .ok (.iaload, 1) := by decide +kernel
theorem dX12_book_69 : decode cX12_book 69 = .ok (.ireturn, 1) := by decide +kernel
theorem dX12_toldAhead_0 : decode cX12_toldAhead 0 = .ok (.iconst 0, 1) := by decide +kernel
theorem dX12_toldAhead_1 : decode cX12_toldAhead 1 = .ok (.istore_n 3, 1) := by decide +kernel
theorem dX12_toldAhead_2 : decode cX12_toldAhead 2 = .ok (.iconst 0, 1) := by decide +kernel
theorem dX12_toldAhead_3 : decode cX12_toldAhead 3 = .ok (.istore 4, 2) := by decide +kernel
theorem dX12_toldAhead_5 : decode cX12_toldAhead 5 = .ok (.iload 4, 2) := by decide +kernel
theorem dX12_toldAhead_7 : decode cX12_toldAhead 7 = .ok (.iload_n 1, 1) := by decide +kernel
theorem dX12_toldAhead_8 : decode cX12_toldAhead 8 = .ok (.if_icmp .ge 32, 3) := by decide +kernel
theorem dX12_toldAhead_11 : decode cX12_toldAhead 11 = .ok (.iload_n 3, 1) := by decide +kernel
theorem dX12_toldAhead_12 : decode cX12_toldAhead 12 = .ok (.aload_n 0, 1) := by decide +kernel
theorem dX12_toldAhead_13 : decode cX12_toldAhead 13 = .ok (.getfield 9, 3) := by decide +kernel
theorem dX12_toldAhead_16 : decode cX12_toldAhead 16 = .ok (.sipush 152, 3) := by decide +kernel
theorem dX12_toldAhead_19 : decode cX12_toldAhead 19 = .ok (.iload 4, 2) := by decide +kernel
theorem dX12_toldAhead_21 : decode cX12_toldAhead 21 = .ok (.iadd, 1) := by decide +kernel
theorem dX12_toldAhead_22 : decode cX12_toldAhead 22 = .ok (.iaload, 1) := by decide +kernel
theorem dX12_toldAhead_23 : decode cX12_toldAhead 23 = .ok (.iload_n 2, 1) := by decide +kernel
theorem dX12_toldAhead_24 : decode cX12_toldAhead 24 = .ok (.if_icmp .ne 7, 3) := by decide +kernel
theorem dX12_toldAhead_27 : decode cX12_toldAhead 27 = .ok (.iconst 1, 1) := by decide +kernel
theorem dX12_toldAhead_28 : decode cX12_toldAhead 28 = .ok (.goto 4, 3) := by decide +kernel
theorem dX12_toldAhead_31 : decode cX12_toldAhead 31 = .ok (.iconst 0, 1) := by decide +kernel
theorem dX12_toldAhead_32 : decode cX12_toldAhead 32 = .ok (.iadd, 1) := by decide +kernel
theorem dX12_toldAhead_33 : decode cX12_toldAhead 33 = .ok (.istore_n 3, 1) := by decide +kernel
theorem dX12_toldAhead_34 : decode cX12_toldAhead 34 = .ok (.iinc 4 1, 3) := by decide +kernel
theorem dX12_toldAhead_37 : decode cX12_toldAhead 37 = .ok (.goto (-32), 3) := by decide +kernel
theorem dX12_toldAhead_40 : decode cX12_toldAhead 40 = .ok (.iload_n 3, 1) := by decide +kernel
theorem dX12_toldAhead_41 : decode cX12_toldAhead 41 = .ok (.ireturn, 1) := by decide +kernel
theorem dX12_oddsFrom_0 : decode cX12_oddsFrom 0 = .ok (.aload_n 0, 1) := by decide +kernel
theorem dX12_oddsFrom_1 : decode cX12_oddsFrom 1 = .ok (.lconst 1, 1) := by decide +kernel
theorem dX12_oddsFrom_2 : decode cX12_oddsFrom 2 = .ok (.putfield 287, 3) := by decide +kernel
theorem dX12_oddsFrom_5 : decode cX12_oddsFrom 5 = .ok (.aload_n 0, 1) := by decide +kernel
theorem dX12_oddsFrom_6 : decode cX12_oddsFrom 6 = .ok (.lconst 1, 1) := by decide +kernel
theorem dX12_oddsFrom_7 : decode cX12_oddsFrom 7 = .ok (.putfield 291, 3) := by decide +kernel
theorem dX12_oddsFrom_10 : decode cX12_oddsFrom 10 = .ok (.iconst 0, 1) := by decide +kernel
theorem dX12_oddsFrom_11 : decode cX12_oddsFrom 11 = .ok (.istore_n 2, 1) := by decide +kernel
theorem dX12_oddsFrom_12 : decode cX12_oddsFrom 12 = .ok (.iload_n 2, 1) := by decide +kernel
theorem dX12_oddsFrom_13 : decode cX12_oddsFrom 13 = .ok (.aload_n 0, 1) := by decide +kernel
theorem dX12_oddsFrom_14 : decode cX12_oddsFrom 14 = .ok (.getfield 9, 3) := by decide +kernel
theorem dX12_oddsFrom_17 : decode cX12_oddsFrom 17 = .ok (.iconst 2, 1) := by decide +kernel
theorem dX12_oddsFrom_18 : decode cX12_oddsFrom 18 = .ok (.iaload, 1) := by decide +kernel
theorem dX12_oddsFrom_19 : decode cX12_oddsFrom 19 = .ok (.if_icmp .ge 128, 3) := by decide +kernel
theorem dX12_oddsFrom_22 : decode cX12_oddsFrom 22 = .ok (.aload_n 0, 1) := by decide +kernel
theorem dX12_oddsFrom_23 : decode cX12_oddsFrom 23 = .ok (.getfield 9, 3) := by decide +kernel
theorem dX12_oddsFrom_26 : decode cX12_oddsFrom 26 = .ok (.iload_n 1, 1) := by decide +kernel
theorem dX12_oddsFrom_27 : decode cX12_oddsFrom 27 = .ok (.aload_n 0, 1) := by decide +kernel
theorem dX12_oddsFrom_28 : decode cX12_oddsFrom 28 = .ok (.getfield 9, 3) := by decide +kernel
theorem dX12_oddsFrom_31 : decode cX12_oddsFrom 31 = .ok (.sipush 152, 3) := by decide +kernel
theorem dX12_oddsFrom_34 : decode cX12_oddsFrom 34 = .ok (.iload_n 2, 1) := by decide +kernel
theorem dX12_oddsFrom_35 : decode cX12_oddsFrom 35 = .ok (.iadd, 1) := by decide +kernel
theorem dX12_oddsFrom_36 : decode cX12_oddsFrom 36 = .ok (.iaload, 1) := by decide +kernel
theorem dX12_oddsFrom_37 : decode cX12_oddsFrom 37 = .ok (.iadd, 1) := by decide +kernel
theorem dX12_oddsFrom_38 : decode cX12_oddsFrom 38 = .ok (.iaload, 1) := by decide +kernel
theorem dX12_oddsFrom_39 : decode cX12_oddsFrom 39 = .ok (.aload_n 0, 1) := by decide +kernel
theorem dX12_oddsFrom_40 : decode cX12_oddsFrom 40 = .ok (.iload_n 2, 1) := by decide +kernel
theorem dX12_oddsFrom_41 : decode cX12_oddsFrom 41 = .ok (.aload_n 0, 1) := by decide +kernel
theorem dX12_oddsFrom_42 : decode cX12_oddsFrom 42 = .ok (.getfield 9, 3) := by decide +kernel
theorem dX12_oddsFrom_45 : decode cX12_oddsFrom 45 = .ok (.sipush 152, 3) := by decide +kernel
theorem dX12_oddsFrom_48 : decode cX12_oddsFrom 48 = .ok (.iload_n 2, 1) := by decide +kernel
theorem dX12_oddsFrom_49 : decode cX12_oddsFrom 49 = .ok (.iadd, 1) := by decide +kernel
theorem dX12_oddsFrom_50 : decode cX12_oddsFrom 50 = .ok (.iaload, 1) := by decide +kernel
theorem dX12_oddsFrom_51 : decode cX12_oddsFrom 51 = .ok (.invokevirtual 294, 3) := by decide +kernel
theorem dX12_oddsFrom_54 : decode cX12_oddsFrom 54 = .ok (.isub, 1) := by decide +kernel
theorem dX12_oddsFrom_55 : decode cX12_oddsFrom 55 = .ok (.istore_n 3, 1) := by decide +kernel
theorem dX12_oddsFrom_56 : decode cX12_oddsFrom 56 = .ok (.aload_n 0, 1) := by decide +kernel
theorem dX12_oddsFrom_57 : decode cX12_oddsFrom 57 = .ok (.getfield 9, 3) := by decide +kernel
theorem dX12_oddsFrom_60 : decode cX12_oddsFrom 60 = .ok (.iload_n 1, 1) := by decide +kernel
theorem dX12_oddsFrom_61 : decode cX12_oddsFrom 61 = .ok (.iaload, 1) := by decide +kernel
theorem dX12_oddsFrom_62 : decode cX12_oddsFrom 62 = .ok (.aload_n 0, 1) := by decide +kernel
theorem dX12_oddsFrom_63 : decode cX12_oddsFrom 63 = .ok (.getfield 9, 3) := by decide +kernel
theorem dX12_oddsFrom_66 : decode cX12_oddsFrom 66 = .ok (.iload_n 1, 1) := by decide +kernel
theorem dX12_oddsFrom_67 : decode cX12_oddsFrom 67 = .ok (.iconst 1, 1) := by decide +kernel
theorem dX12_oddsFrom_68 : decode cX12_oddsFrom 68 = .ok (.iadd, 1) := by decide +kernel
theorem dX12_oddsFrom_69 : decode cX12_oddsFrom 69 = .ok (.iaload, 1) := by decide +kernel
theorem dX12_oddsFrom_70 : decode cX12_oddsFrom 70 = .ok (.iadd, 1) := by decide +kernel
theorem dX12_oddsFrom_71 : decode cX12_oddsFrom 71 = .ok (.aload_n 0, 1) := by decide +kernel
theorem dX12_oddsFrom_72 : decode cX12_oddsFrom 72 = .ok (.getfield 9, 3) := by decide +kernel
theorem dX12_oddsFrom_75 : decode cX12_oddsFrom 75 = .ok (.iload_n 1, 1) := by decide +kernel
theorem dX12_oddsFrom_76 : decode cX12_oddsFrom 76 = .ok (.iconst 2, 1) := by decide +kernel
theorem dX12_oddsFrom_77 : decode cX12_oddsFrom 77 = .ok (.iadd, 1) := by decide +kernel
theorem dX12_oddsFrom_78 : decode cX12_oddsFrom 78 = .ok (.iaload, 1) := by decide +kernel
theorem dX12_oddsFrom_79 : decode cX12_oddsFrom 79 = .ok (.iadd, 1) := by decide +kernel
theorem dX12_oddsFrom_80 : decode cX12_oddsFrom 80 = .ok (.iload_n 2, 1) := by decide +kernel
theorem dX12_oddsFrom_81 : decode cX12_oddsFrom 81 = .ok (.isub, 1) := by decide +kernel
theorem dX12_oddsFrom_82 : decode cX12_oddsFrom 82 = .ok (.istore 4, 2) := by decide +kernel
theorem dX12_oddsFrom_84 : decode cX12_oddsFrom 84 = .ok (.aload_n 0, 1) := by decide +kernel
theorem dX12_oddsFrom_85 : decode cX12_oddsFrom 85 = .ok (.iload_n 3, 1) := by decide +kernel
theorem dX12_oddsFrom_86 : decode cX12_oddsFrom 86 = .ok (.iconst 1, 1) := by decide +kernel
theorem dX12_oddsFrom_87 : decode cX12_oddsFrom 87 = .ok (.if_icmp .ge 7, 3) := by decide +kernel
theorem dX12_oddsFrom_90 : decode cX12_oddsFrom 90 = .ok (.lconst 0, 1) := by decide +kernel
theorem dX12_oddsFrom_91 : decode cX12_oddsFrom 91 = .ok (.goto 10, 3) := by decide +kernel
theorem dX12_oddsFrom_94 : decode cX12_oddsFrom 94 = .ok (.aload_n 0, 1) := by decide +kernel
theorem dX12_oddsFrom_95 : decode cX12_oddsFrom 95 = .ok (.getfield 287, 3) := by decide +kernel
theorem dX12_oddsFrom_98 : decode cX12_oddsFrom 98 = .ok (.iload_n 3, 1) := by decide +kernel
theorem dX12_oddsFrom_99 : decode cX12_oddsFrom 99 = .ok (.i2l, 1) := by decide +kernel
theorem dX12_oddsFrom_100 : decode cX12_oddsFrom 100 = .ok (.lmul, 1) := by decide +kernel
theorem dX12_oddsFrom_101 : decode cX12_oddsFrom 101 = .ok (.putfield 287, 3) := by decide +kernel
theorem dX12_oddsFrom_104 : decode cX12_oddsFrom 104 = .ok (.aload_n 0, 1) := by decide +kernel
theorem dX12_oddsFrom_105 : decode cX12_oddsFrom 105 = .ok (.iload 4, 2) := by decide +kernel
theorem dX12_oddsFrom_107 : decode cX12_oddsFrom 107 = .ok (.iconst 1, 1) := by decide +kernel
theorem dX12_oddsFrom_108 : decode cX12_oddsFrom 108 = .ok (.if_icmp .ge 7, 3) := by decide +kernel
theorem dX12_oddsFrom_111 : decode cX12_oddsFrom 111 = .ok (.lconst 1, 1) := by decide +kernel
theorem dX12_oddsFrom_112 : decode cX12_oddsFrom 112 = .ok (.goto 11, 3) := by decide +kernel
theorem dX12_oddsFrom_115 : decode cX12_oddsFrom 115 = .ok (.aload_n 0, 1) := by decide +kernel
theorem dX12_oddsFrom_116 : decode cX12_oddsFrom 116 = .ok (.getfield 291, 3) := by decide +kernel
theorem dX12_oddsFrom_119 : decode cX12_oddsFrom 119 = .ok (.iload 4, 2) := by decide +kernel
theorem dX12_oddsFrom_121 : decode cX12_oddsFrom 121 = .ok (.i2l, 1) := by decide +kernel
theorem dX12_oddsFrom_122 : decode cX12_oddsFrom 122 = .ok (.lmul, 1) := by decide +kernel
theorem dX12_oddsFrom_123 : decode cX12_oddsFrom 123 = .ok (.putfield 291, 3) := by decide +kernel
theorem dX12_oddsFrom_126 : decode cX12_oddsFrom 126 = .ok (.aload_n 0, 1) := by decide +kernel
theorem dX12_oddsFrom_127 : decode cX12_oddsFrom 127 = .ok (.getfield 287, 3) := by decide +kernel
theorem dX12_oddsFrom_130 : decode cX12_oddsFrom 130 = .ok (.lconst 0, 1) := by decide +kernel
theorem dX12_oddsFrom_131 : decode cX12_oddsFrom 131 = .ok (.lcmp, 1) := by decide +kernel
theorem dX12_oddsFrom_132 : decode cX12_oddsFrom 132 = .ok (.ifCond .ne 9, 3) := by decide +kernel
theorem dX12_oddsFrom_135 : decode cX12_oddsFrom 135 = .ok (.aload_n 0, 1) := by decide +kernel
theorem dX12_oddsFrom_136 : decode cX12_oddsFrom 136 = .ok (.lconst 1, 1) := by decide +kernel
theorem dX12_oddsFrom_137 : decode cX12_oddsFrom 137 = .ok (.putfield 291, 3) := by decide +kernel
theorem dX12_oddsFrom_140 : decode cX12_oddsFrom 140 = .ok (.return_, 1) := by decide +kernel
theorem dX12_oddsFrom_141 : decode cX12_oddsFrom 141 = .ok (.iinc 2 1, 3) := by decide +kernel
theorem dX12_oddsFrom_144 : decode cX12_oddsFrom 144 = .ok (.goto (-132), 3) := by decide +kernel
theorem dX12_oddsFrom_147 : decode cX12_oddsFrom 147 = .ok (.return_, 1) := by decide +kernel
theorem dX12_likely_0 : decode cX12_likely 0 = .ok (.iload_n 1, 1) := by decide +kernel
theorem dX12_likely_1 : decode cX12_likely 1 = .ok (.iconst 0, 1) := by decide +kernel
theorem dX12_likely_2 : decode cX12_likely 2 = .ok (.iconst 1, 1) := by decide +kernel
theorem dX12_likely_3 : decode cX12_likely 3 = .ok (.invokestatic 69, 3) := by decide +kernel
theorem dX12_likely_6 : decode cX12_likely 6 = .ok (.ifCond .ne 7, 3) := by decide +kernel
theorem dX12_likely_9 : decode cX12_likely 9 = .ok (.ldc2_w 259, 3) := by decide +kernel
theorem dX12_likely_12 : decode cX12_likely 12 = .ok (.lreturn, 1) := by decide +kernel
theorem dX12_likely_13 : decode cX12_likely 13 = .ok (.aload_n 0, 1) := by decide +kernel
theorem dX12_likely_14 : decode cX12_likely 14 = .ok (.bipush 6, 2) := by decide +kernel
theorem dX12_likely_16 : decode cX12_likely 16 = .ok (.invokevirtual 297, 3) := by decide +kernel
theorem dX12_likely_19 : decode cX12_likely 19 = .ok (.aload_n 0, 1) := by decide +kernel
theorem dX12_likely_20 : decode cX12_likely 20 = .ok (.getfield 287, 3) := by decide +kernel
theorem dX12_likely_23 : decode cX12_likely 23 = .ok (.aload_n 0, 1) := by decide +kernel
theorem dX12_likely_24 : decode cX12_likely 24 = .ok (.getfield 291, 3) := by decide +kernel
theorem dX12_likely_27 : decode cX12_likely 27 = .ok (.iload_n 1, 1) := by decide +kernel
theorem dX12_likely_28 : decode cX12_likely 28 = .ok (.invokestatic 261, 3) := by decide +kernel
theorem dX12_likely_31 : decode cX12_likely 31 = .ok (.lreturn, 1) := by decide +kernel
theorem dX12_judged_0 : decode cX12_judged 0 = .ok (.aload_n 0, 1) := by decide +kernel
theorem dX12_judged_1 : decode cX12_judged 1 = .ok (.iload_n 1, 1) := by decide +kernel
theorem dX12_judged_2 : decode cX12_judged 2 = .ok (.invokevirtual 227, 3) := by decide +kernel
theorem dX12_judged_5 : decode cX12_judged 5 = .ok (.ifCond .eq 12, 3) := by decide +kernel
theorem dX12_judged_8 : decode cX12_judged 8 = .ok (.iload_n 2, 1) := by decide +kernel
theorem dX12_judged_9 : decode cX12_judged 9 = .ok (.iconst 0, 1) := by decide +kernel
theorem dX12_judged_10 : decode cX12_judged 10 = .ok (.iconst 1, 1) := by decide +kernel
theorem dX12_judged_11 : decode cX12_judged 11 = .ok (.invokestatic 69, 3) := by decide +kernel
theorem dX12_judged_14 : decode cX12_judged 14 = .ok (.ifCond .ne 5, 3) := by decide +kernel
theorem dX12_judged_17 : decode cX12_judged 17 = .ok (.iconst (-1), 1) := by decide +kernel
theorem dX12_judged_18 : decode cX12_judged 18 = .ok (.ireturn, 1) := by decide +kernel
theorem dX12_judged_19 : decode cX12_judged 19 = .ok (.aload_n 0, 1) := by decide +kernel
theorem dX12_judged_20 : decode cX12_judged 20 = .ok (.invokevirtual 246, 3) := by decide +kernel
theorem dX12_judged_23 : decode cX12_judged 23 = .ok (.aload_n 0, 1) := by decide +kernel
theorem dX12_judged_24 : decode cX12_judged 24 = .ok (.invokevirtual 249, 3) := by decide +kernel
theorem dX12_judged_27 : decode cX12_judged 27 = .ok (.istore_n 3, 1) := by decide +kernel
theorem dX12_judged_28 : decode cX12_judged 28 = .ok (.iconst 0, 1) := by decide +kernel
theorem dX12_judged_29 : decode cX12_judged 29 = .ok (.istore 4, 2) := by decide +kernel
theorem dX12_judged_31 : decode cX12_judged 31 = .ok (.iconst 0, 1) := by decide +kernel
theorem dX12_judged_32 : decode cX12_judged 32 = .ok (.istore 5, 2) := by decide +kernel
theorem dX12_judged_34 : decode cX12_judged 34 = .ok (.iload 5, 2) := by decide +kernel
theorem dX12_judged_36 : decode cX12_judged 36 = .ok (.aload_n 0, 1) := by decide +kernel
theorem dX12_judged_37 : decode cX12_judged 37 = .ok (.getfield 9, 3) := by decide +kernel
theorem dX12_judged_40 : decode cX12_judged 40 = .ok (.iconst 2, 1) := by decide +kernel
theorem dX12_judged_41 : decode cX12_judged 41 = .ok (.iaload, 1) := by decide +kernel
theorem dX12_judged_42 : decode cX12_judged 42 = .ok (.if_icmp .ge 76, 3) := by decide +kernel
theorem dX12_judged_45 : decode cX12_judged 45 = .ok (.iload_n 3, 1) := by decide +kernel
theorem dX12_judged_46 : decode cX12_judged 46 = .ok (.aload_n 0, 1) := by decide +kernel
theorem dX12_judged_47 : decode cX12_judged 47 = .ok (.getfield 9, 3) := by decide +kernel
theorem dX12_judged_50 : decode cX12_judged 50 = .ok (.sipush 152, 3) := by decide +kernel
theorem dX12_judged_53 : decode cX12_judged 53 = .ok (.iload 5, 2) := by decide +kernel
theorem dX12_judged_55 : decode cX12_judged 55 = .ok (.iadd, 1) := by decide +kernel
theorem dX12_judged_56 : decode cX12_judged 56 = .ok (.iaload, 1) := by decide +kernel
theorem dX12_judged_57 : decode cX12_judged 57 = .ok (.invokestatic 172, 3) := by decide +kernel
theorem dX12_judged_60 : decode cX12_judged 60 = .ok (.ifCond .le 58, 3) := by decide +kernel
theorem dX12_judged_63 : decode cX12_judged 63 = .ok (.aload_n 0, 1) := by decide +kernel
theorem dX12_judged_64 : decode cX12_judged 64 = .ok (.getfield 9, 3) := by decide +kernel
theorem dX12_judged_67 : decode cX12_judged 67 = .ok (.sipush 152, 3) := by decide +kernel
theorem dX12_judged_70 : decode cX12_judged 70 = .ok (.iload 5, 2) := by decide +kernel
theorem dX12_judged_72 : decode cX12_judged 72 = .ok (.iadd, 1) := by decide +kernel
theorem dX12_judged_73 : decode cX12_judged 73 = .ok (.iaload, 1) := by decide +kernel
theorem dX12_judged_74 : decode cX12_judged 74 = .ok (.istore 6, 2) := by decide +kernel
theorem dX12_judged_76 : decode cX12_judged 76 = .ok (.iload_n 3, 1) := by decide +kernel
theorem dX12_judged_77 : decode cX12_judged 77 = .ok (.iload 6, 2) := by decide +kernel
theorem dX12_judged_79 : decode cX12_judged 79 = .ok (.invokestatic 218, 3) := by decide +kernel
theorem dX12_judged_82 : decode cX12_judged 82 = .ok (.istore_n 3, 1) := by decide +kernel
theorem dX12_judged_83 : decode cX12_judged 83 = .ok (.aload_n 0, 1) := by decide +kernel
theorem dX12_judged_84 : decode cX12_judged 84 = .ok (.iload_n 1, 1) := by decide +kernel
theorem dX12_judged_85 : decode cX12_judged 85 = .ok (.iload_n 3, 1) := by decide +kernel
theorem dX12_judged_86 : decode cX12_judged 86 = .ok (.iload 6, 2) := by decide +kernel
theorem dX12_judged_88 : decode cX12_judged 88 = .ok (.invokevirtual 252, 3) := by decide +kernel
theorem dX12_judged_91 : decode cX12_judged 91 = .ok (.istore 7, 2) := by decide +kernel
theorem dX12_judged_93 : decode cX12_judged 93 = .ok (.iload 4, 2) := by decide +kernel
theorem dX12_judged_95 : decode cX12_judged 95 = .ok (.aload_n 0, 1) := by decide +kernel
theorem dX12_judged_96 : decode cX12_judged 96 = .ok (.iload_n 3, 1) := by decide +kernel
theorem dX12_judged_97 : decode cX12_judged 97 = .ok (.iload 7, 2) := by decide +kernel
theorem dX12_judged_99 : decode cX12_judged 99 = .ok (.invokevirtual 212, 3) := by decide +kernel
theorem dX12_judged_102 : decode cX12_judged 102 = .ok (.iadd, 1) := by decide +kernel
theorem dX12_judged_103 : decode cX12_judged 103 = .ok (.istore 4, 2) := by decide +kernel
theorem dX12_judged_105 : decode cX12_judged 105 = .ok (.iload_n 3, 1) := by decide +kernel
theorem dX12_judged_106 : decode cX12_judged 106 = .ok (.iload 7, 2) := by decide +kernel
theorem dX12_judged_108 : decode cX12_judged 108 = .ok (.invokestatic 215, 3) := by decide +kernel
theorem dX12_judged_111 : decode cX12_judged 111 = .ok (.istore_n 3, 1) := by decide +kernel
theorem dX12_judged_112 : decode cX12_judged 112 = .ok (.iinc 5 1, 3) := by decide +kernel
theorem dX12_judged_115 : decode cX12_judged 115 = .ok (.goto (-81), 3) := by decide +kernel
theorem dX12_judged_118 : decode cX12_judged 118 = .ok (.iload_n 2, 1) := by decide +kernel
theorem dX12_judged_119 : decode cX12_judged 119 = .ok (.ifCond .ne 8, 3) := by decide +kernel
theorem dX12_judged_122 : decode cX12_judged 122 = .ok (.iload 5, 2) := by decide +kernel
theorem dX12_judged_124 : decode cX12_judged 124 = .ok (.goto 5, 3) := by decide +kernel
theorem dX12_judged_127 : decode cX12_judged 127 = .ok (.iload 4, 2) := by decide +kernel
theorem dX12_judged_129 : decode cX12_judged 129 = .ok (.ireturn, 1) := by decide +kernel
theorem dX12_other_0 : decode cX12_other 0 = .ok (.iload_n 1, 1) := by decide +kernel
theorem dX12_other_1 : decode cX12_other 1 = .ok (.invokestatic 73, 3) := by decide +kernel
theorem dX12_other_4 : decode cX12_other 4 = .ok (.ifCond .ne 5, 3) := by decide +kernel
theorem dX12_other_7 : decode cX12_other 7 = .ok (.iconst (-1), 1) := by decide +kernel
theorem dX12_other_8 : decode cX12_other 8 = .ok (.ireturn, 1) := by decide +kernel
theorem dX12_other_9 : decode cX12_other 9 = .ok (.iload_n 2, 1) := by decide +kernel
theorem dX12_other_10 : decode cX12_other 10 = .ok (.iconst 0, 1) := by decide +kernel
theorem dX12_other_11 : decode cX12_other 11 = .ok (.iconst 5, 1) := by decide +kernel
theorem dX12_other_12 : decode cX12_other 12 = .ok (.invokestatic 69, 3) := by decide +kernel
theorem dX12_other_15 : decode cX12_other 15 = .ok (.ifCond .ne 6, 3) := by decide +kernel
theorem dX12_other_18 : decode cX12_other 18 = .ok (.bipush (-2), 2) := by decide +kernel
theorem dX12_other_20 : decode cX12_other 20 = .ok (.ireturn, 1) := by decide +kernel
theorem dX12_other_21 : decode cX12_other 21 = .ok (.aload_n 0, 1) := by decide +kernel
theorem dX12_other_22 : decode cX12_other 22 = .ok (.getfield 9, 3) := by decide +kernel
theorem dX12_other_25 : decode cX12_other 25 = .ok (.sipush 164, 3) := by decide +kernel
theorem dX12_other_28 : decode cX12_other 28 = .ok (.iload_n 1, 1) := by decide +kernel
theorem dX12_other_29 : decode cX12_other 29 = .ok (.iadd, 1) := by decide +kernel
theorem dX12_other_30 : decode cX12_other 30 = .ok (.iaload, 1) := by decide +kernel
theorem dX12_other_31 : decode cX12_other 31 = .ok (.istore_n 3, 1) := by decide +kernel
theorem dX12_other_32 : decode cX12_other 32 = .ok (.aload_n 0, 1) := by decide +kernel
theorem dX12_other_33 : decode cX12_other 33 = .ok (.getfield 9, 3) := by decide +kernel
theorem dX12_other_36 : decode cX12_other 36 = .ok (.sipush 164, 3) := by decide +kernel
theorem dX12_other_39 : decode cX12_other 39 = .ok (.iload_n 1, 1) := by decide +kernel
theorem dX12_other_40 : decode cX12_other 40 = .ok (.iadd, 1) := by decide +kernel
theorem dX12_other_41 : decode cX12_other 41 = .ok (.iload_n 2, 1) := by decide +kernel
theorem dX12_other_42 : decode cX12_other 42 = .ok (.iastore, 1) := by decide +kernel
theorem dX12_other_43 : decode cX12_other 43 = .ok (.iload_n 3, 1) := by decide +kernel
theorem dX12_other_44 : decode cX12_other 44 = .ok (.ireturn, 1) := by decide +kernel
theorem dX12_against_0 : decode cX12_against 0 = .ok (.lload_n 0, 1) := by decide +kernel
theorem dX12_against_1 : decode cX12_against 1 = .ok (.lstore 8, 2) := by decide +kernel
theorem dX12_against_3 : decode cX12_against 3 = .ok (.lload_n 2, 1) := by decide +kernel
theorem dX12_against_4 : decode cX12_against 4 = .ok (.lstore 10, 2) := by decide +kernel
theorem dX12_against_6 : decode cX12_against 6 = .ok (.lload 4, 2) := by decide +kernel
theorem dX12_against_8 : decode cX12_against 8 = .ok (.lstore 12, 2) := by decide +kernel
theorem dX12_against_10 : decode cX12_against 10 = .ok (.lload 6, 2) := by decide +kernel
theorem dX12_against_12 : decode cX12_against 12 = .ok (.lstore 14, 2) := by decide +kernel
theorem dX12_against_14 : decode cX12_against 14 = .ok (.iconst 1, 1) := by decide +kernel
theorem dX12_against_15 : decode cX12_against 15 = .ok (.istore 16, 2) := by decide +kernel
theorem dX12_against_17 : decode cX12_against 17 = .ok (.lload 8, 2) := by decide +kernel
theorem dX12_against_19 : decode cX12_against 19 = .ok (.lload 10, 2) := by decide +kernel
theorem dX12_against_21 : decode cX12_against 21 = .ok (.ldiv, 1) := by decide +kernel
theorem dX12_against_22 : decode cX12_against 22 = .ok (.lstore 17, 2) := by decide +kernel
theorem dX12_against_24 : decode cX12_against 24 = .ok (.lload 12, 2) := by decide +kernel
theorem dX12_against_26 : decode cX12_against 26 = .ok (.lload 14, 2) := by decide +kernel
theorem dX12_against_28 : decode cX12_against 28 = .ok (.ldiv, 1) := by decide +kernel
theorem dX12_against_29 : decode cX12_against 29 = .ok (.lstore 19, 2) := by decide +kernel
theorem dX12_against_31 : decode cX12_against 31 = .ok (.lload 17, 2) := by decide +kernel
theorem dX12_against_33 : decode cX12_against 33 = .ok (.lload 19, 2) := by decide +kernel
theorem dX12_against_35 : decode cX12_against 35 = .ok (.lcmp, 1) := by decide +kernel
theorem dX12_against_36 : decode cX12_against 36 = .ok (.ifCond .eq 20, 3) := by decide +kernel
theorem dX12_against_39 : decode cX12_against 39 = .ok (.lload 17, 2) := by decide +kernel
theorem dX12_against_41 : decode cX12_against 41 = .ok (.lload 19, 2) := by decide +kernel
theorem dX12_against_43 : decode cX12_against 43 = .ok (.lcmp, 1) := by decide +kernel
theorem dX12_against_44 : decode cX12_against 44 = .ok (.ifCond .le 8, 3) := by decide +kernel
theorem dX12_against_47 : decode cX12_against 47 = .ok (.iload 16, 2) := by decide +kernel
theorem dX12_against_49 : decode cX12_against 49 = .ok (.goto 6, 3) := by decide +kernel
theorem dX12_against_52 : decode cX12_against 52 = .ok (.iload 16, 2) := by decide +kernel
theorem dX12_against_54 : decode cX12_against 54 = .ok (.ineg, 1) := by decide +kernel
theorem dX12_against_55 : decode cX12_against 55 = .ok (.ireturn, 1) := by decide +kernel
theorem dX12_against_56 : decode cX12_against 56 = .ok (.lload 8, 2) := by decide +kernel
theorem dX12_against_58 : decode cX12_against 58 = .ok (.lload 10, 2) := by decide +kernel
theorem dX12_against_60 : decode cX12_against 60 = .ok (.lrem, 1) := by decide +kernel
theorem dX12_against_61 : decode cX12_against 61 = .ok (.lstore 8, 2) := by decide +kernel
theorem dX12_against_63 : decode cX12_against 63 = .ok (.lload 12, 2) := by decide +kernel
theorem dX12_against_65 : decode cX12_against 65 = .ok (.lload 14, 2) := by decide +kernel
theorem dX12_against_67 : decode cX12_against 67 = .ok (.lrem, 1) := by decide +kernel
theorem dX12_against_68 : decode cX12_against 68 = .ok (.lstore 12, 2) := by decide +kernel
theorem dX12_against_70 : decode cX12_against 70 = .ok (.lload 8, 2) := by decide +kernel
theorem dX12_against_72 : decode cX12_against 72 = .ok (.lconst 0, 1) := by decide +kernel
theorem dX12_against_73 : decode cX12_against 73 = .ok (.lcmp, 1) := by decide +kernel
theorem dX12_against_74 : decode cX12_against 74 = .ok (.ifCond .eq 10, 3) := by decide +kernel
theorem dX12_against_77 : decode cX12_against 77 = .ok (.lload 12, 2) := by decide +kernel
theorem dX12_against_79 : decode cX12_against 79 = .ok (.lconst 0, 1) := by decide +kernel
theorem dX12_against_80 : decode cX12_against 80 = .ok (.lcmp, 1) := by decide +kernel
theorem dX12_against_81 : decode cX12_against 81 = .ok (.ifCond .ne 32, 3) := by decide +kernel
theorem dX12_against_84 : decode cX12_against 84 = .ok (.lload 8, 2) := by decide +kernel
theorem dX12_against_86 : decode cX12_against 86 = .ok (.lload 12, 2) := by decide +kernel
theorem dX12_against_88 : decode cX12_against 88 = .ok (.lcmp, 1) := by decide +kernel
theorem dX12_against_89 : decode cX12_against 89 = .ok (.ifCond .ne 7, 3) := by decide +kernel
theorem dX12_against_92 : decode cX12_against 92 = .ok (.iconst 0, 1) := by decide +kernel
theorem dX12_against_93 : decode cX12_against 93 = .ok (.goto 19, 3) := by decide +kernel
theorem dX12_against_96 : decode cX12_against 96 = .ok (.lload 8, 2) := by decide +kernel
theorem dX12_against_98 : decode cX12_against 98 = .ok (.lload 12, 2) := by decide +kernel
theorem dX12_against_100 : decode cX12_against 100 = .ok (.lcmp, 1) := by decide +kernel
theorem dX12_against_101 : decode cX12_against 101 = .ok (.ifCond .le 8, 3) := by decide +kernel
theorem dX12_against_104 : decode cX12_against 104 = .ok (.iload 16, 2) := by decide +kernel
theorem dX12_against_106 : decode cX12_against 106 = .ok (.goto 6, 3) := by decide +kernel
theorem dX12_against_109 : decode cX12_against 109 = .ok (.iload 16, 2) := by decide +kernel
theorem dX12_against_111 : decode cX12_against 111 = .ok (.ineg, 1) := by decide +kernel
theorem dX12_against_112 : decode cX12_against 112 = .ok (.ireturn, 1) := by decide +kernel
theorem dX12_against_113 : decode cX12_against 113 = .ok (.lload 8, 2) := by decide +kernel
theorem dX12_against_115 : decode cX12_against 115 = .ok (.lstore 21, 2) := by decide +kernel
theorem dX12_against_117 : decode cX12_against 117 = .ok (.lload 10, 2) := by decide +kernel
theorem dX12_against_119 : decode cX12_against 119 = .ok (.lstore 8, 2) := by decide +kernel
theorem dX12_against_121 : decode cX12_against 121 = .ok (.lload 21, 2) := by decide +kernel
theorem dX12_against_123 : decode cX12_against 123 = .ok (.lstore 10, 2) := by decide +kernel
theorem dX12_against_125 : decode cX12_against 125 = .ok (.lload 12, 2) := by decide +kernel
theorem dX12_against_127 : decode cX12_against 127 = .ok (.lstore 21, 2) := by decide +kernel
theorem dX12_against_129 : decode cX12_against 129 = .ok (.lload 14, 2) := by decide +kernel
theorem dX12_against_131 : decode cX12_against 131 = .ok (.lstore 12, 2) := by decide +kernel
theorem dX12_against_133 : decode cX12_against 133 = .ok (.lload 21, 2) := by decide +kernel
theorem dX12_against_135 : decode cX12_against 135 = .ok (.lstore 14, 2) := by decide +kernel
theorem dX12_against_137 : decode cX12_against 137 = .ok (.iload 16, 2) := by decide +kernel
theorem dX12_against_139 : decode cX12_against 139 = .ok (.ineg, 1) := by decide +kernel
theorem dX12_against_140 : decode cX12_against 140 = .ok (.istore 16, 2) := by decide +kernel
theorem dX12_against_142 : decode cX12_against 142 = .ok (.goto (-125), 3) := by decide +kernel
theorem dX12_same_0 : decode cX12_same 0 = .ok (.aload_n 0, 1) := by decide +kernel
theorem dX12_same_1 : decode cX12_same 1 = .ok (.bipush 6, 2) := by decide +kernel
theorem dX12_same_3 : decode cX12_same 3 = .ok (.invokevirtual 297, 3) := by decide +kernel
theorem dX12_same_6 : decode cX12_same 6 = .ok (.aload_n 0, 1) := by decide +kernel
theorem dX12_same_7 : decode cX12_same 7 = .ok (.getfield 287, 3) := by decide +kernel
theorem dX12_same_10 : decode cX12_same 10 = .ok (.lstore_n 1, 1) := by decide +kernel
theorem dX12_same_11 : decode cX12_same 11 = .ok (.aload_n 0, 1) := by decide +kernel
theorem dX12_same_12 : decode cX12_same 12 = .ok (.getfield 291, 3) := by decide +kernel
theorem dX12_same_15 : decode cX12_same 15 = .ok (.lstore_n 3, 1) := by decide +kernel
theorem dX12_same_16 : decode cX12_same 16 = .ok (.aload_n 0, 1) := by decide +kernel
theorem dX12_same_17 : decode cX12_same 17 = .ok (.sipush 164, 3) := by decide +kernel
theorem dX12_same_20 : decode cX12_same 20 = .ok (.invokevirtual 297, 3) := by decide +kernel
theorem dX12_same_23 : decode cX12_same 23 = .ok (.lload_n 1, 1) := by decide +kernel
theorem dX12_same_24 : decode cX12_same 24 = .ok (.lload_n 3, 1) := by decide +kernel
theorem dX12_same_25 : decode cX12_same 25 = .ok (.aload_n 0, 1) := by decide +kernel
theorem dX12_same_26 : decode cX12_same 26 = .ok (.getfield 287, 3) := by decide +kernel
theorem dX12_same_29 : decode cX12_same 29 = .ok (.aload_n 0, 1) := by decide +kernel
theorem dX12_same_30 : decode cX12_same 30 = .ok (.getfield 291, 3) := by decide +kernel
theorem dX12_same_33 : decode cX12_same 33 = .ok (.invokestatic 300, 3) := by decide +kernel
theorem dX12_same_36 : decode cX12_same 36 = .ok (.istore 5, 2) := by decide +kernel
theorem dX12_same_38 : decode cX12_same 38 = .ok (.iload 5, 2) := by decide +kernel
theorem dX12_same_40 : decode cX12_same 40 = .ok (.ifCond .le 7, 3) := by decide +kernel
theorem dX12_same_43 : decode cX12_same 43 = .ok (.iconst 1, 1) := by decide +kernel
theorem dX12_same_44 : decode cX12_same 44 = .ok (.goto 13, 3) := by decide +kernel
theorem dX12_same_47 : decode cX12_same 47 = .ok (.iload 5, 2) := by decide +kernel
theorem dX12_same_49 : decode cX12_same 49 = .ok (.ifCond .ge 7, 3) := by decide +kernel
theorem dX12_same_52 : decode cX12_same 52 = .ok (.iconst 2, 1) := by decide +kernel
theorem dX12_same_53 : decode cX12_same 53 = .ok (.goto 4, 3) := by decide +kernel
theorem dX12_same_56 : decode cX12_same 56 = .ok (.iconst 0, 1) := by decide +kernel
theorem dX12_same_57 : decode cX12_same 57 = .ok (.ireturn, 1) := by decide +kernel
theorem dX12_ranBody_0 : decode cX12_ranBody 0 = .ok (.aload_n 0, 1) := by decide +kernel
theorem dX12_ranBody_1 : decode cX12_ranBody 1 = .ok (.getfield 304, 3) := by decide +kernel
theorem dX12_ranBody_4 : decode cX12_ranBody 4 = .ok (.bipush 20, 2) := by decide +kernel
theorem dX12_ranBody_6 : decode cX12_ranBody 6 = .ok (.if_icmp .ge 13, 3) := by decide +kernel
theorem dX12_ranBody_9 : decode cX12_ranBody 9 = .ok (.aload_n 0, 1) := by decide +kernel
theorem dX12_ranBody_10 : decode cX12_ranBody 10 = .ok (.getfield 62, 3) := by decide +kernel
theorem dX12_ranBody_13 : decode cX12_ranBody 13 = .ok (.aload_n 0, 1) := by decide +kernel
theorem dX12_ranBody_14 : decode cX12_ranBody 14 = .ok (.getfield 304, 3) := by decide +kernel
theorem dX12_ranBody_17 : decode cX12_ranBody 17 = .ok (.iload_n 1, 1) := by decide +kernel
theorem dX12_ranBody_18 : decode cX12_ranBody 18 = .ok (.iastore, 1) := by decide +kernel
theorem dX12_ranBody_19 : decode cX12_ranBody 19 = .ok (.aload_n 0, 1) := by decide +kernel
theorem dX12_ranBody_20 : decode cX12_ranBody 20 = .ok (.dup, 1) := by decide +kernel
theorem dX12_ranBody_21 : decode cX12_ranBody 21 = .ok (.getfield 304, 3) := by decide +kernel
theorem dX12_ranBody_24 : decode cX12_ranBody 24 = .ok (.iconst 1, 1) := by decide +kernel
theorem dX12_ranBody_25 : decode cX12_ranBody 25 = .ok (.iadd, 1) := by decide +kernel
theorem dX12_ranBody_26 : decode cX12_ranBody 26 = .ok (.putfield 304, 3) := by decide +kernel
theorem dX12_ranBody_29 : decode cX12_ranBody 29 = .ok (.return_, 1) := by decide +kernel
theorem dX12_isUnder_0 : decode cX12_isUnder 0 = .ok (.iload_n 1, 1) := by decide +kernel
theorem dX12_isUnder_1 : decode cX12_isUnder 1 = .ok (.ifCond .eq 39, 3) := by decide +kernel
theorem dX12_isUnder_4 : decode cX12_isUnder 4 = .ok (.iload_n 1, 1) := by decide +kernel
theorem dX12_isUnder_5 : decode cX12_isUnder 5 = .ok (.iload_n 0, 1) := by decide +kernel
theorem dX12_isUnder_6 : decode cX12_isUnder 6 = .ok (.if_icmp .eq 34, 3) := by decide +kernel
theorem dX12_isUnder_9 : decode cX12_isUnder 9 = .ok (.iload_n 1, 1) := by decide +kernel
theorem dX12_isUnder_10 : decode cX12_isUnder 10 = .ok (.iconst 1, 1) := by decide +kernel
theorem dX12_isUnder_11 : decode cX12_isUnder 11 = .ok (.if_icmp .ne 8, 3) := by decide +kernel
theorem dX12_isUnder_14 : decode cX12_isUnder 14 = .ok (.iload_n 0, 1) := by decide +kernel
theorem dX12_isUnder_15 : decode cX12_isUnder 15 = .ok (.iconst 4, 1) := by decide +kernel
theorem dX12_isUnder_16 : decode cX12_isUnder 16 = .ok (.if_icmp .eq 24, 3) := by decide +kernel
theorem dX12_isUnder_19 : decode cX12_isUnder 19 = .ok (.iload_n 1, 1) := by decide +kernel
theorem dX12_isUnder_20 : decode cX12_isUnder 20 = .ok (.iconst 2, 1) := by decide +kernel
theorem dX12_isUnder_21 : decode cX12_isUnder 21 = .ok (.if_icmp .ne 8, 3) := by decide +kernel
theorem dX12_isUnder_24 : decode cX12_isUnder 24 = .ok (.iload_n 0, 1) := by decide +kernel
theorem dX12_isUnder_25 : decode cX12_isUnder 25 = .ok (.iconst 5, 1) := by decide +kernel
theorem dX12_isUnder_26 : decode cX12_isUnder 26 = .ok (.if_icmp .eq 14, 3) := by decide +kernel
theorem dX12_isUnder_29 : decode cX12_isUnder 29 = .ok (.iload_n 1, 1) := by decide +kernel
theorem dX12_isUnder_30 : decode cX12_isUnder 30 = .ok (.iconst 3, 1) := by decide +kernel
theorem dX12_isUnder_31 : decode cX12_isUnder 31 = .ok (.if_icmp .ne 13, 3) := by decide +kernel
theorem dX12_isUnder_34 : decode cX12_isUnder 34 = .ok (.iload_n 0, 1) := by decide +kernel
theorem dX12_isUnder_35 : decode cX12_isUnder 35 = .ok (.bipush 6, 2) := by decide +kernel
theorem dX12_isUnder_37 : decode cX12_isUnder 37 = .ok (.if_icmp .ne 7, 3) := by decide +kernel
theorem dX12_isUnder_40 : decode cX12_isUnder 40 = .ok (.iconst 1, 1) := by decide +kernel
theorem dX12_isUnder_41 : decode cX12_isUnder 41 = .ok (.goto 4, 3) := by decide +kernel
theorem dX12_isUnder_44 : decode cX12_isUnder 44 = .ok (.iconst 0, 1) := by decide +kernel
theorem dX12_isUnder_45 : decode cX12_isUnder 45 = .ok (.ireturn, 1) := by decide +kernel
theorem dX12_plainSows_0 : decode cX12_plainSows 0 = .ok (.aload_n 0, 1) := by decide +kernel
theorem dX12_plainSows_1 : decode cX12_plainSows 1 = .ok (.iconst 1, 1) := by decide +kernel
theorem dX12_plainSows_2 : decode cX12_plainSows 2 = .ok (.invokevirtual 307, 3) := by decide +kernel
theorem dX12_plainSows_5 : decode cX12_plainSows 5 = .ok (.iload_n 1, 1) := by decide +kernel
theorem dX12_plainSows_6 : decode cX12_plainSows 6 = .ok (.aload_n 0, 1) := by decide +kernel
theorem dX12_plainSows_7 : decode cX12_plainSows 7 = .ok (.getfield 310, 3) := by decide +kernel
theorem dX12_plainSows_10 : decode cX12_plainSows 10 = .ok (.iadd, 1) := by decide +kernel
theorem dX12_plainSows_11 : decode cX12_plainSows 11 = .ok (.ireturn, 1) := by decide +kernel
theorem dX12_sowsActs_0 : decode cX12_sowsActs 0 = .ok (.aload_n 0, 1) := by decide +kernel
theorem dX12_sowsActs_1 : decode cX12_sowsActs 1 = .ok (.getfield 313, 3) := by decide +kernel
theorem dX12_sowsActs_4 : decode cX12_sowsActs 4 = .ok (.iconst 1, 1) := by decide +kernel
theorem dX12_sowsActs_5 : decode cX12_sowsActs 5 = .ok (.invokestatic 316, 3) := by decide +kernel
theorem dX12_sowsActs_8 : decode cX12_sowsActs 8 = .ok (.ifCond .eq 17, 3) := by decide +kernel
theorem dX12_sowsActs_11 : decode cX12_sowsActs 11 = .ok (.aload_n 0, 1) := by decide +kernel
theorem dX12_sowsActs_12 : decode cX12_sowsActs 12 = .ok (.bipush 11, 2) := by decide +kernel
theorem dX12_sowsActs_14 : decode cX12_sowsActs 14 = .ok (.invokevirtual 307, 3) := by decide +kernel
theorem dX12_sowsActs_17 : decode cX12_sowsActs 17 = .ok (.aload_n 0, 1) := by decide +kernel
theorem dX12_sowsActs_18 : decode cX12_sowsActs 18 = .ok (.iload_n 1, 1) := by decide +kernel
theorem dX12_sowsActs_19 : decode cX12_sowsActs 19 = .ok (.iconst 3, 1) := by decide +kernel
theorem dX12_sowsActs_20 : decode cX12_sowsActs 20 = .ok (.imul, 1) := by decide +kernel
theorem dX12_sowsActs_21 : decode cX12_sowsActs 21 = .ok (.invokevirtual 319, 3) := by decide +kernel
theorem dX12_sowsActs_24 : decode cX12_sowsActs 24 = .ok (.ireturn, 1) := by decide +kernel
theorem dX12_sowsActs_25 : decode cX12_sowsActs 25 = .ok (.aload_n 0, 1) := by decide +kernel
theorem dX12_sowsActs_26 : decode cX12_sowsActs 26 = .ok (.getfield 313, 3) := by decide +kernel
theorem dX12_sowsActs_29 : decode cX12_sowsActs 29 = .ok (.iconst 5, 1) := by decide +kernel
theorem dX12_sowsActs_30 : decode cX12_sowsActs 30 = .ok (.if_icmp .ne 20, 3) := by decide +kernel
theorem dX12_sowsActs_33 : decode cX12_sowsActs 33 = .ok (.aload_n 0, 1) := by decide +kernel
theorem dX12_sowsActs_34 : decode cX12_sowsActs 34 = .ok (.bipush 51, 2) := by decide +kernel
theorem dX12_sowsActs_36 : decode cX12_sowsActs 36 = .ok (.invokevirtual 307, 3) := by decide +kernel
theorem dX12_sowsActs_39 : decode cX12_sowsActs 39 = .ok (.aload_n 0, 1) := by decide +kernel
theorem dX12_sowsActs_40 : decode cX12_sowsActs 40 = .ok (.iload_n 1, 1) := by decide +kernel
theorem dX12_sowsActs_41 : decode cX12_sowsActs 41 = .ok (.invokevirtual 319, 3) := by decide +kernel
theorem dX12_sowsActs_44 : decode cX12_sowsActs 44 = .ok (.aload_n 0, 1) := by decide +kernel
theorem dX12_sowsActs_45 : decode cX12_sowsActs 45 = .ok (.getfield 310, 3) := by decide +kernel
theorem dX12_sowsActs_48 : decode cX12_sowsActs 48 = .ok (.ixor, 1) := by decide +kernel
theorem dX12_sowsActs_49 : decode cX12_sowsActs 49 = .ok (.ireturn, 1) := by decide +kernel
theorem dX12_sowsActs_50 : decode cX12_sowsActs 50 = .ok (.aload_n 0, 1) := by decide +kernel
theorem dX12_sowsActs_51 : decode cX12_sowsActs 51 = .ok (.iload_n 1, 1) := by decide +kernel
theorem dX12_sowsActs_52 : decode cX12_sowsActs 52 = .ok (.invokevirtual 319, 3) := by decide +kernel
theorem dX12_sowsActs_55 : decode cX12_sowsActs 55 = .ok (.ireturn, 1) := by decide +kernel
theorem dX12_plainCuts_0 : decode cX12_plainCuts 0 = .ok (.aload_n 0, 1) := by decide +kernel
theorem dX12_plainCuts_1 : decode cX12_plainCuts 1 = .ok (.iconst 2, 1) := by decide +kernel
theorem dX12_plainCuts_2 : decode cX12_plainCuts 2 = .ok (.invokevirtual 307, 3) := by decide +kernel
theorem dX12_plainCuts_5 : decode cX12_plainCuts 5 = .ok (.aload_n 0, 1) := by decide +kernel
theorem dX12_plainCuts_6 : decode cX12_plainCuts 6 = .ok (.iload_n 1, 1) := by decide +kernel
theorem dX12_plainCuts_7 : decode cX12_plainCuts 7 = .ok (.invokevirtual 322, 3) := by decide +kernel
theorem dX12_plainCuts_10 : decode cX12_plainCuts 10 = .ok (.aload_n 0, 1) := by decide +kernel
theorem dX12_plainCuts_11 : decode cX12_plainCuts 11 = .ok (.getfield 325, 3) := by decide +kernel
theorem dX12_plainCuts_14 : decode cX12_plainCuts 14 = .ok (.isub, 1) := by decide +kernel
theorem dX12_plainCuts_15 : decode cX12_plainCuts 15 = .ok (.ireturn, 1) := by decide +kernel
theorem dX12_cutsActs_0 : decode cX12_cutsActs 0 = .ok (.aload_n 0, 1) := by decide +kernel
theorem dX12_cutsActs_1 : decode cX12_cutsActs 1 = .ok (.getfield 313, 3) := by decide +kernel
theorem dX12_cutsActs_4 : decode cX12_cutsActs 4 = .ok (.iconst 2, 1) := by decide +kernel
theorem dX12_cutsActs_5 : decode cX12_cutsActs 5 = .ok (.invokestatic 316, 3) := by decide +kernel
theorem dX12_cutsActs_8 : decode cX12_cutsActs 8 = .ok (.ifCond .eq 16, 3) := by decide +kernel
theorem dX12_cutsActs_11 : decode cX12_cutsActs 11 = .ok (.aload_n 0, 1) := by decide +kernel
theorem dX12_cutsActs_12 : decode cX12_cutsActs 12 = .ok (.bipush 21, 2) := by decide +kernel
theorem dX12_cutsActs_14 : decode cX12_cutsActs 14 = .ok (.invokevirtual 307, 3) := by decide +kernel
theorem dX12_cutsActs_17 : decode cX12_cutsActs 17 = .ok (.aload_n 0, 1) := by decide +kernel
theorem dX12_cutsActs_18 : decode cX12_cutsActs 18 = .ok (.iload_n 1, 1) := by decide +kernel
theorem dX12_cutsActs_19 : decode cX12_cutsActs 19 = .ok (.invokevirtual 328, 3) := by decide +kernel
theorem dX12_cutsActs_22 : decode cX12_cutsActs 22 = .ok (.ineg, 1) := by decide +kernel
theorem dX12_cutsActs_23 : decode cX12_cutsActs 23 = .ok (.ireturn, 1) := by decide +kernel
theorem dX12_cutsActs_24 : decode cX12_cutsActs 24 = .ok (.aload_n 0, 1) := by decide +kernel
theorem dX12_cutsActs_25 : decode cX12_cutsActs 25 = .ok (.getfield 313, 3) := by decide +kernel
theorem dX12_cutsActs_28 : decode cX12_cutsActs 28 = .ok (.bipush 6, 2) := by decide +kernel
theorem dX12_cutsActs_30 : decode cX12_cutsActs 30 = .ok (.if_icmp .ne 20, 3) := by decide +kernel
theorem dX12_cutsActs_33 : decode cX12_cutsActs 33 = .ok (.aload_n 0, 1) := by decide +kernel
theorem dX12_cutsActs_34 : decode cX12_cutsActs 34 = .ok (.bipush 61, 2) := by decide +kernel
theorem dX12_cutsActs_36 : decode cX12_cutsActs 36 = .ok (.invokevirtual 307, 3) := by decide +kernel
theorem dX12_cutsActs_39 : decode cX12_cutsActs 39 = .ok (.aload_n 0, 1) := by decide +kernel
theorem dX12_cutsActs_40 : decode cX12_cutsActs 40 = .ok (.iload_n 1, 1) := by decide +kernel
theorem dX12_cutsActs_41 : decode cX12_cutsActs 41 = .ok (.invokevirtual 328, 3) := by decide +kernel
theorem dX12_cutsActs_44 : decode cX12_cutsActs 44 = .ok (.aload_n 0, 1) := by decide +kernel
theorem dX12_cutsActs_45 : decode cX12_cutsActs 45 = .ok (.getfield 325, 3) := by decide +kernel
theorem dX12_cutsActs_48 : decode cX12_cutsActs 48 = .ok (.iadd, 1) := by decide +kernel
theorem dX12_cutsActs_49 : decode cX12_cutsActs 49 = .ok (.ireturn, 1) := by decide +kernel
theorem dX12_cutsActs_50 : decode cX12_cutsActs 50 = .ok (.aload_n 0, 1) := by decide +kernel
theorem dX12_cutsActs_51 : decode cX12_cutsActs 51 = .ok (.iload_n 1, 1) := by decide +kernel
theorem dX12_cutsActs_52 : decode cX12_cutsActs 52 = .ok (.invokevirtual 328, 3) := by decide +kernel
theorem dX12_cutsActs_55 : decode cX12_cutsActs 55 = .ok (.ireturn, 1) := by decide +kernel
theorem dX12_plainTells_0 : decode cX12_plainTells 0 = .ok (.aload_n 0, 1) := by decide +kernel
theorem dX12_plainTells_1 : decode cX12_plainTells 1 = .ok (.iconst 3, 1) := by decide +kernel
theorem dX12_plainTells_2 : decode cX12_plainTells 2 = .ok (.invokevirtual 307, 3) := by decide +kernel
theorem dX12_plainTells_5 : decode cX12_plainTells 5 = .ok (.aload_n 0, 1) := by decide +kernel
theorem dX12_plainTells_6 : decode cX12_plainTells 6 = .ok (.iload_n 1, 1) := by decide +kernel
theorem dX12_plainTells_7 : decode cX12_plainTells 7 = .ok (.invokevirtual 331, 3) := by decide +kernel
theorem dX12_plainTells_10 : decode cX12_plainTells 10 = .ok (.iconst 2, 1) := by decide +kernel
theorem dX12_plainTells_11 : decode cX12_plainTells 11 = .ok (.imul, 1) := by decide +kernel
theorem dX12_plainTells_12 : decode cX12_plainTells 12 = .ok (.ireturn, 1) := by decide +kernel
theorem dX12_tellsActs_0 : decode cX12_tellsActs 0 = .ok (.aload_n 0, 1) := by decide +kernel
theorem dX12_tellsActs_1 : decode cX12_tellsActs 1 = .ok (.getfield 313, 3) := by decide +kernel
theorem dX12_tellsActs_4 : decode cX12_tellsActs 4 = .ok (.iconst 3, 1) := by decide +kernel
theorem dX12_tellsActs_5 : decode cX12_tellsActs 5 = .ok (.invokestatic 316, 3) := by decide +kernel
theorem dX12_tellsActs_8 : decode cX12_tellsActs 8 = .ok (.ifCond .eq 18, 3) := by decide +kernel
theorem dX12_tellsActs_11 : decode cX12_tellsActs 11 = .ok (.aload_n 0, 1) := by decide +kernel
theorem dX12_tellsActs_12 : decode cX12_tellsActs 12 = .ok (.bipush 31, 2) := by decide +kernel
theorem dX12_tellsActs_14 : decode cX12_tellsActs 14 = .ok (.invokevirtual 307, 3) := by decide +kernel
theorem dX12_tellsActs_17 : decode cX12_tellsActs 17 = .ok (.aload_n 0, 1) := by decide +kernel
theorem dX12_tellsActs_18 : decode cX12_tellsActs 18 = .ok (.iload_n 1, 1) := by decide +kernel
theorem dX12_tellsActs_19 : decode cX12_tellsActs 19 = .ok (.invokevirtual 334, 3) := by decide +kernel
theorem dX12_tellsActs_22 : decode cX12_tellsActs 22 = .ok (.bipush 7, 2) := by decide +kernel
theorem dX12_tellsActs_24 : decode cX12_tellsActs 24 = .ok (.ixor, 1) := by decide +kernel
theorem dX12_tellsActs_25 : decode cX12_tellsActs 25 = .ok (.ireturn, 1) := by decide +kernel
theorem dX12_tellsActs_26 : decode cX12_tellsActs 26 = .ok (.aload_n 0, 1) := by decide +kernel
theorem dX12_tellsActs_27 : decode cX12_tellsActs 27 = .ok (.getfield 313, 3) := by decide +kernel
theorem dX12_tellsActs_30 : decode cX12_tellsActs 30 = .ok (.iconst 4, 1) := by decide +kernel
theorem dX12_tellsActs_31 : decode cX12_tellsActs 31 = .ok (.if_icmp .ne 25, 3) := by decide +kernel
theorem dX12_tellsActs_34 : decode cX12_tellsActs 34 = .ok (.aload_n 0, 1) := by decide +kernel
theorem dX12_tellsActs_35 : decode cX12_tellsActs 35 = .ok (.bipush 41, 2) := by decide +kernel
theorem dX12_tellsActs_37 : decode cX12_tellsActs 37 = .ok (.invokevirtual 307, 3) := by decide +kernel
theorem dX12_tellsActs_40 : decode cX12_tellsActs 40 = .ok (.aload_n 0, 1) := by decide +kernel
theorem dX12_tellsActs_41 : decode cX12_tellsActs 41 = .ok (.iload_n 1, 1) := by decide +kernel
theorem dX12_tellsActs_42 : decode cX12_tellsActs 42 = .ok (.iconst 1, 1) := by decide +kernel
theorem dX12_tellsActs_43 : decode cX12_tellsActs 43 = .ok (.isub, 1) := by decide +kernel
theorem dX12_tellsActs_44 : decode cX12_tellsActs 44 = .ok (.invokevirtual 334, 3) := by decide +kernel
theorem dX12_tellsActs_47 : decode cX12_tellsActs 47 = .ok (.istore_n 2, 1) := by decide +kernel
theorem dX12_tellsActs_48 : decode cX12_tellsActs 48 = .ok (.iload_n 2, 1) := by decide +kernel
theorem dX12_tellsActs_49 : decode cX12_tellsActs 49 = .ok (.aload_n 0, 1) := by decide +kernel
theorem dX12_tellsActs_50 : decode cX12_tellsActs 50 = .ok (.iconst 2, 1) := by decide +kernel
theorem dX12_tellsActs_51 : decode cX12_tellsActs 51 = .ok (.invokevirtual 322, 3) := by decide +kernel
theorem dX12_tellsActs_54 : decode cX12_tellsActs 54 = .ok (.iadd, 1) := by decide +kernel
theorem dX12_tellsActs_55 : decode cX12_tellsActs 55 = .ok (.ireturn, 1) := by decide +kernel
theorem dX12_tellsActs_56 : decode cX12_tellsActs 56 = .ok (.aload_n 0, 1) := by decide +kernel
theorem dX12_tellsActs_57 : decode cX12_tellsActs 57 = .ok (.iload_n 1, 1) := by decide +kernel
theorem dX12_tellsActs_58 : decode cX12_tellsActs 58 = .ok (.invokevirtual 334, 3) := by decide +kernel
theorem dX12_tellsActs_61 : decode cX12_tellsActs 61 = .ok (.ireturn, 1) := by decide +kernel
theorem dX12_act_0 : decode cX12_act 0 = .ok (.aload_n 0, 1) := by decide +kernel
theorem dX12_act_1 : decode cX12_act 1 = .ok (.iconst 0, 1) := by decide +kernel
theorem dX12_act_2 : decode cX12_act 2 = .ok (.putfield 304, 3) := by decide +kernel
theorem dX12_act_5 : decode cX12_act 5 = .ok (.aload_n 0, 1) := by decide +kernel
theorem dX12_act_6 : decode cX12_act 6 = .ok (.iload_n 1, 1) := by decide +kernel
theorem dX12_act_7 : decode cX12_act 7 = .ok (.invokevirtual 227, 3) := by decide +kernel
theorem dX12_act_10 : decode cX12_act 10 = .ok (.ifCond .eq 12, 3) := by decide +kernel
theorem dX12_act_13 : decode cX12_act 13 = .ok (.iload_n 2, 1) := by decide +kernel
theorem dX12_act_14 : decode cX12_act 14 = .ok (.iconst 0, 1) := by decide +kernel
theorem dX12_act_15 : decode cX12_act 15 = .ok (.iconst 2, 1) := by decide +kernel
theorem dX12_act_16 : decode cX12_act 16 = .ok (.invokestatic 69, 3) := by decide +kernel
theorem dX12_act_19 : decode cX12_act 19 = .ok (.ifCond .ne 5, 3) := by decide +kernel
theorem dX12_act_22 : decode cX12_act 22 = .ok (.iconst 0, 1) := by decide +kernel
theorem dX12_act_23 : decode cX12_act 23 = .ok (.ireturn, 1) := by decide +kernel
theorem dX12_act_24 : decode cX12_act 24 = .ok (.aload_n 0, 1) := by decide +kernel
theorem dX12_act_25 : decode cX12_act 25 = .ok (.aload_n 0, 1) := by decide +kernel
theorem dX12_act_26 : decode cX12_act 26 = .ok (.getfield 9, 3) := by decide +kernel
theorem dX12_act_29 : decode cX12_act 29 = .ok (.bipush 112, 2) := by decide +kernel
theorem dX12_act_31 : decode cX12_act 31 = .ok (.iload_n 1, 1) := by decide +kernel
theorem dX12_act_32 : decode cX12_act 32 = .ok (.iadd, 1) := by decide +kernel
theorem dX12_act_33 : decode cX12_act 33 = .ok (.iaload, 1) := by decide +kernel
theorem dX12_act_34 : decode cX12_act 34 = .ok (.putfield 313, 3) := by decide +kernel
theorem dX12_act_37 : decode cX12_act 37 = .ok (.aload_n 0, 1) := by decide +kernel
theorem dX12_act_38 : decode cX12_act 38 = .ok (.iload_n 1, 1) := by decide +kernel
theorem dX12_act_39 : decode cX12_act 39 = .ok (.putfield 310, 3) := by decide +kernel
theorem dX12_act_42 : decode cX12_act 42 = .ok (.aload_n 0, 1) := by decide +kernel
theorem dX12_act_43 : decode cX12_act 43 = .ok (.aload_n 0, 1) := by decide +kernel
theorem dX12_act_44 : decode cX12_act 44 = .ok (.getfield 9, 3) := by decide +kernel
theorem dX12_act_47 : decode cX12_act 47 = .ok (.bipush 120, 2) := by decide +kernel
theorem dX12_act_49 : decode cX12_act 49 = .ok (.iload_n 1, 1) := by decide +kernel
theorem dX12_act_50 : decode cX12_act 50 = .ok (.iadd, 1) := by decide +kernel
theorem dX12_act_51 : decode cX12_act 51 = .ok (.iaload, 1) := by decide +kernel
theorem dX12_act_52 : decode cX12_act 52 = .ok (.putfield 325, 3) := by decide +kernel
theorem dX12_act_55 : decode cX12_act 55 = .ok (.iload_n 2, 1) := by decide +kernel
theorem dX12_act_56 : decode cX12_act 56 = .ok (.ifCond .ne 11, 3) := by decide +kernel
theorem dX12_act_59 : decode cX12_act 59 = .ok (.aload_n 0, 1) := by decide +kernel
theorem dX12_act_60 : decode cX12_act 60 = .ok (.iload_n 3, 1) := by decide +kernel
theorem dX12_act_61 : decode cX12_act 61 = .ok (.invokevirtual 322, 3) := by decide +kernel
theorem dX12_act_64 : decode cX12_act 64 = .ok (.goto 21, 3) := by decide +kernel
theorem dX12_act_67 : decode cX12_act 67 = .ok (.iload_n 2, 1) := by decide +kernel
theorem dX12_act_68 : decode cX12_act 68 = .ok (.iconst 1, 1) := by decide +kernel
theorem dX12_act_69 : decode cX12_act 69 = .ok (.if_icmp .ne 11, 3) := by decide +kernel
theorem dX12_act_72 : decode cX12_act 72 = .ok (.aload_n 0, 1) := by decide +kernel
theorem dX12_act_73 : decode cX12_act 73 = .ok (.iload_n 3, 1) := by decide +kernel
theorem dX12_act_74 : decode cX12_act 74 = .ok (.invokevirtual 331, 3) := by decide +kernel
theorem dX12_act_77 : decode cX12_act 77 = .ok (.goto 8, 3) := by decide +kernel
theorem dX12_act_80 : decode cX12_act 80 = .ok (.aload_n 0, 1) := by decide +kernel
theorem dX12_act_81 : decode cX12_act 81 = .ok (.iload_n 3, 1) := by decide +kernel
theorem dX12_act_82 : decode cX12_act 82 = .ok (.invokevirtual 337, 3) := by decide +kernel
theorem dX12_act_85 : decode cX12_act 85 = .ok (.ireturn, 1) := by decide +kernel
theorem dX12_trace_0 : decode cX12_trace 0 = .ok (.iload_n 1, 1) := by decide +kernel
theorem dX12_trace_1 : decode cX12_trace 1 = .ok (.iconst 0, 1) := by decide +kernel
theorem dX12_trace_2 : decode cX12_trace 2 = .ok (.aload_n 0, 1) := by decide +kernel
theorem dX12_trace_3 : decode cX12_trace 3 = .ok (.getfield 304, 3) := by decide +kernel
theorem dX12_trace_6 : decode cX12_trace 6 = .ok (.bipush 20, 2) := by decide +kernel
theorem dX12_trace_8 : decode cX12_trace 8 = .ok (.if_icmp .ge 10, 3) := by decide +kernel
theorem dX12_trace_11 : decode cX12_trace 11 = .ok (.aload_n 0, 1) := by decide +kernel
theorem dX12_trace_12 : decode cX12_trace 12 = .ok (.getfield 304, 3) := by decide +kernel
theorem dX12_trace_15 : decode cX12_trace 15 = .ok (.goto 5, 3) := by decide +kernel
theorem dX12_trace_18 : decode cX12_trace 18 = .ok (.bipush 20, 2) := by decide +kernel
theorem dX12_trace_20 : decode cX12_trace 20 = .ok (.iconst 1, 1) := by decide +kernel
theorem dX12_trace_21 : decode cX12_trace 21 = .ok (.isub, 1) := by decide +kernel
theorem dX12_trace_22 : decode cX12_trace 22 = .ok (.invokestatic 69, 3) := by decide +kernel
theorem dX12_trace_25 : decode cX12_trace 25 = .ok (.ifCond .eq 12, 3) := by decide +kernel
theorem dX12_trace_28 : decode cX12_trace 28 = .ok (.aload_n 0, 1) := by decide +kernel
theorem dX12_trace_29 : decode cX12_trace 29 = .ok (.getfield 62, 3) := by decide +kernel
theorem dX12_trace_32 : decode cX12_trace 32 = .ok (.iload_n 1, 1) := by decide +kernel
theorem dX12_trace_33 : decode cX12_trace 33 = .ok (.iaload, 1) := by decide +kernel
theorem dX12_trace_34 : decode cX12_trace 34 = .ok (.goto 4, 3) := by decide +kernel
theorem dX12_trace_37 : decode cX12_trace 37 = .ok (.iconst (-1), 1) := by decide +kernel
theorem dX12_trace_38 : decode cX12_trace 38 = .ok (.ireturn, 1) := by decide +kernel
theorem dX12_as_0 : decode cX12_as 0 = .ok (.aload_n 0, 1) := by decide +kernel
theorem dX12_as_1 : decode cX12_as 1 = .ok (.iload_n 1, 1) := by decide +kernel
theorem dX12_as_2 : decode cX12_as 2 = .ok (.invokevirtual 227, 3) := by decide +kernel
theorem dX12_as_5 : decode cX12_as 5 = .ok (.ifCond .eq 13, 3) := by decide +kernel
theorem dX12_as_8 : decode cX12_as 8 = .ok (.iload_n 2, 1) := by decide +kernel
theorem dX12_as_9 : decode cX12_as 9 = .ok (.iconst 0, 1) := by decide +kernel
theorem dX12_as_10 : decode cX12_as 10 = .ok (.bipush 6, 2) := by decide +kernel
theorem dX12_as_12 : decode cX12_as 12 = .ok (.invokestatic 69, 3) := by decide +kernel
theorem dX12_as_15 : decode cX12_as 15 = .ok (.ifCond .ne 5, 3) := by decide +kernel
theorem dX12_as_18 : decode cX12_as 18 = .ok (.iconst (-1), 1) := by decide +kernel
theorem dX12_as_19 : decode cX12_as 19 = .ok (.ireturn, 1) := by decide +kernel
theorem dX12_as_20 : decode cX12_as 20 = .ok (.aload_n 0, 1) := by decide +kernel
theorem dX12_as_21 : decode cX12_as 21 = .ok (.getfield 9, 3) := by decide +kernel
theorem dX12_as_24 : decode cX12_as 24 = .ok (.bipush 112, 2) := by decide +kernel
theorem dX12_as_26 : decode cX12_as 26 = .ok (.iload_n 1, 1) := by decide +kernel
theorem dX12_as_27 : decode cX12_as 27 = .ok (.iadd, 1) := by decide +kernel
theorem dX12_as_28 : decode cX12_as 28 = .ok (.iaload, 1) := by decide +kernel
theorem dX12_as_29 : decode cX12_as 29 = .ok (.iload_n 2, 1) := by decide +kernel
theorem dX12_as_30 : decode cX12_as 30 = .ok (.invokestatic 316, 3) := by decide +kernel
theorem dX12_as_33 : decode cX12_as 33 = .ok (.ifCond .eq 15, 3) := by decide +kernel
theorem dX12_as_36 : decode cX12_as 36 = .ok (.aload_n 0, 1) := by decide +kernel
theorem dX12_as_37 : decode cX12_as 37 = .ok (.getfield 9, 3) := by decide +kernel
theorem dX12_as_40 : decode cX12_as 40 = .ok (.bipush 120, 2) := by decide +kernel
theorem dX12_as_42 : decode cX12_as 42 = .ok (.iload_n 1, 1) := by decide +kernel
theorem dX12_as_43 : decode cX12_as 43 = .ok (.iadd, 1) := by decide +kernel
theorem dX12_as_44 : decode cX12_as 44 = .ok (.iaload, 1) := by decide +kernel
theorem dX12_as_45 : decode cX12_as 45 = .ok (.goto 5, 3) := by decide +kernel
theorem dX12_as_48 : decode cX12_as 48 = .ok (.bipush (-6), 2) := by decide +kernel
theorem dX12_as_50 : decode cX12_as 50 = .ok (.ireturn, 1) := by decide +kernel
theorem dX12_image_0 : decode cX12_image 0 = .ok (.iconst 0, 1) := by decide +kernel
theorem dX12_image_1 : decode cX12_image 1 = .ok (.istore_n 1, 1) := by decide +kernel
theorem dX12_image_2 : decode cX12_image 2 = .ok (.iload_n 1, 1) := by decide +kernel
theorem dX12_image_3 : decode cX12_image 3 = .ok (.sipush 892, 3) := by decide +kernel
theorem dX12_image_6 : decode cX12_image 6 = .ok (.if_icmp .ge 21, 3) := by decide +kernel
theorem dX12_image_9 : decode cX12_image 9 = .ok (.aload_n 0, 1) := by decide +kernel
theorem dX12_image_10 : decode cX12_image 10 = .ok (.getfield 15, 3) := by decide +kernel
theorem dX12_image_13 : decode cX12_image 13 = .ok (.iload_n 1, 1) := by decide +kernel
theorem dX12_image_14 : decode cX12_image 14 = .ok (.aload_n 0, 1) := by decide +kernel
theorem dX12_image_15 : decode cX12_image 15 = .ok (.getfield 9, 3) := by decide +kernel
theorem dX12_image_18 : decode cX12_image 18 = .ok (.iload_n 1, 1) := by decide +kernel
theorem dX12_image_19 : decode cX12_image 19 = .ok (.iaload, 1) := by decide +kernel
theorem dX12_image_20 : decode cX12_image 20 = .ok (.iastore, 1) := by decide +kernel
theorem dX12_image_21 : decode cX12_image 21 = .ok (.iinc 1 1, 3) := by decide +kernel
theorem dX12_image_24 : decode cX12_image 24 = .ok (.goto (-22), 3) := by decide +kernel
theorem dX12_image_27 : decode cX12_image 27 = .ok (.aload_n 0, 1) := by decide +kernel
theorem dX12_image_28 : decode cX12_image 28 = .ok (.iconst 1, 1) := by decide +kernel
theorem dX12_image_29 : decode cX12_image 29 = .ok (.putfield 340, 3) := by decide +kernel
theorem dX12_image_32 : decode cX12_image 32 = .ok (.aload_n 0, 1) := by decide +kernel
theorem dX12_image_33 : decode cX12_image 33 = .ok (.getfield 9, 3) := by decide +kernel
theorem dX12_image_36 : decode cX12_image 36 = .ok (.iconst 0, 1) := by decide +kernel
theorem dX12_image_37 : decode cX12_image 37 = .ok (.iaload, 1) := by decide +kernel
theorem dX12_image_38 : decode cX12_image 38 = .ok (.ireturn, 1) := by decide +kernel
theorem dX12_undo_0 : decode cX12_undo 0 = .ok (.aload_n 0, 1) := by decide +kernel
theorem dX12_undo_1 : decode cX12_undo 1 = .ok (.getfield 340, 3) := by decide +kernel
theorem dX12_undo_4 : decode cX12_undo 4 = .ok (.ifCond .ne 6, 3) := by decide +kernel
theorem dX12_undo_7 : decode cX12_undo 7 = .ok (.bipush (-3), 2) := by decide +kernel
theorem dX12_undo_9 : decode cX12_undo 9 = .ok (.ireturn, 1) := by decide +kernel
theorem dX12_undo_10 : decode cX12_undo 10 = .ok (.iconst 0, 1) := by decide +kernel
theorem dX12_undo_11 : decode cX12_undo 11 = .ok (.istore_n 1, 1) := by decide +kernel
theorem dX12_undo_12 : decode cX12_undo 12 = .ok (.iload_n 1, 1) := by decide +kernel
theorem dX12_undo_13 : decode cX12_undo 13 = .ok (.sipush 892, 3) := by decide +kernel
theorem dX12_undo_16 : decode cX12_undo 16 = .ok (.if_icmp .ge 21, 3) := by decide +kernel
theorem dX12_undo_19 : decode cX12_undo 19 = .ok (.aload_n 0, 1) := by decide +kernel
theorem dX12_undo_20 : decode cX12_undo 20 = .ok (.getfield 9, 3) := by decide +kernel
theorem dX12_undo_23 : decode cX12_undo 23 = .ok (.iload_n 1, 1) := by decide +kernel
theorem dX12_undo_24 : decode cX12_undo 24 = .ok (.aload_n 0, 1) := by decide +kernel
theorem dX12_undo_25 : decode cX12_undo 25 = .ok (.getfield 15, 3) := by decide +kernel
theorem dX12_undo_28 : decode cX12_undo 28 = .ok (.iload_n 1, 1) := by decide +kernel
theorem dX12_undo_29 : decode cX12_undo 29 = .ok (.iaload, 1) := by decide +kernel
theorem dX12_undo_30 : decode cX12_undo 30 = .ok (.iastore, 1) := by decide +kernel
theorem dX12_undo_31 : decode cX12_undo 31 = .ok (.iinc 1 1, 3) := by decide +kernel
theorem dX12_undo_34 : decode cX12_undo 34 = .ok (.goto (-22), 3) := by decide +kernel
theorem dX12_undo_37 : decode cX12_undo 37 = .ok (.aload_n 0, 1) := by decide +kernel
theorem dX12_undo_38 : decode cX12_undo 38 = .ok (.getfield 9, 3) := by decide +kernel
theorem dX12_undo_41 : decode cX12_undo 41 = .ok (.iconst 0, 1) := by decide +kernel
theorem dX12_undo_42 : decode cX12_undo 42 = .ok (.iaload, 1) := by decide +kernel
theorem dX12_undo_43 : decode cX12_undo 43 = .ok (.ireturn, 1) := by decide +kernel
theorem dX12_count_0 : decode cX12_count 0 = .ok (.iload_n 1, 1) := by decide +kernel
theorem dX12_count_1 : decode cX12_count 1 = .ok (.tableswitch 68 0 4 #[35, 42, 49, 56, 63], 35) := by decide +kernel
theorem dX12_count_36 : decode cX12_count 36 = .ok (.aload_n 0, 1) := by decide +kernel
theorem dX12_count_37 : decode cX12_count 37 = .ok (.getfield 9, 3) := by decide +kernel
theorem dX12_count_40 : decode cX12_count 40 = .ok (.iconst 0, 1) := by decide +kernel
theorem dX12_count_41 : decode cX12_count 41 = .ok (.iaload, 1) := by decide +kernel
theorem dX12_count_42 : decode cX12_count 42 = .ok (.ireturn, 1) := by decide +kernel
theorem dX12_count_43 : decode cX12_count 43 = .ok (.aload_n 0, 1) := by decide +kernel
theorem dX12_count_44 : decode cX12_count 44 = .ok (.getfield 9, 3) := by decide +kernel
theorem dX12_count_47 : decode cX12_count 47 = .ok (.iconst 1, 1) := by decide +kernel
theorem dX12_count_48 : decode cX12_count 48 = .ok (.iaload, 1) := by decide +kernel
theorem dX12_count_49 : decode cX12_count 49 = .ok (.ireturn, 1) := by decide +kernel
theorem dX12_count_50 : decode cX12_count 50 = .ok (.aload_n 0, 1) := by decide +kernel
theorem dX12_count_51 : decode cX12_count 51 = .ok (.getfield 9, 3) := by decide +kernel
theorem dX12_count_54 : decode cX12_count 54 = .ok (.iconst 2, 1) := by decide +kernel
theorem dX12_count_55 : decode cX12_count 55 = .ok (.iaload, 1) := by decide +kernel
theorem dX12_count_56 : decode cX12_count 56 = .ok (.ireturn, 1) := by decide +kernel
theorem dX12_count_57 : decode cX12_count 57 = .ok (.aload_n 0, 1) := by decide +kernel
theorem dX12_count_58 : decode cX12_count 58 = .ok (.getfield 9, 3) := by decide +kernel
theorem dX12_count_61 : decode cX12_count 61 = .ok (.iconst 3, 1) := by decide +kernel
theorem dX12_count_62 : decode cX12_count 62 = .ok (.iaload, 1) := by decide +kernel
theorem dX12_count_63 : decode cX12_count 63 = .ok (.ireturn, 1) := by decide +kernel
theorem dX12_count_64 : decode cX12_count 64 = .ok (.aload_n 0, 1) := by decide +kernel
theorem dX12_count_65 : decode cX12_count 65 = .ok (.getfield 304, 3) := by decide +kernel
theorem dX12_count_68 : decode cX12_count 68 = .ok (.ireturn, 1) := by decide +kernel
theorem dX12_count_69 : decode cX12_count 69 = .ok (.iconst (-1), 1) := by decide +kernel
theorem dX12_count_70 : decode cX12_count 70 = .ok (.ireturn, 1) := by decide +kernel
theorem dL_law_0 : decode cL_law 0 = .ok (.new 7, 3) := by decide +kernel
theorem dL_law_3 : decode cL_law 3 = .ok (.dup, 1) := by decide +kernel
theorem dL_law_4 : decode cL_law 4 = .ok (.invokespecial 9, 3) := by decide +kernel
theorem dL_law_7 : decode cL_law 7 = .ok (.astore_n 1, 1) := by decide +kernel
theorem dL_law_8 : decode cL_law 8 = .ok (.new 10, 3) := by decide +kernel
theorem dL_law_11 : decode cL_law 11 = .ok (.dup, 1) := by decide +kernel
theorem dL_law_12 : decode cL_law 12 = .ok (.invokespecial 12, 3) := by decide +kernel
theorem dL_law_15 : decode cL_law 15 = .ok (.astore_n 2, 1) := by decide +kernel
theorem dL_law_16 : decode cL_law 16 = .ok (.iconst 0, 1) := by decide +kernel
theorem dL_law_17 : decode cL_law 17 = .ok (.istore_n 3, 1) := by decide +kernel
theorem dL_law_18 : decode cL_law 18 = .ok (.iload_n 3, 1) := by decide +kernel
theorem dL_law_19 : decode cL_law 19 = .ok (.aload_n 0, 1) := by decide +kernel
theorem dL_law_20 : decode cL_law 20 = .ok (.arraylength, 1) := by decide +kernel
theorem dL_law_21 : decode cL_law 21 = .ok (.iconst 5, 1) := by decide +kernel
theorem dL_law_22 : decode cL_law 22 = .ok (.isub, 1) := by decide +kernel
theorem dL_law_23 : decode cL_law 23 = .ok (.if_icmp .gt 1171, 3) := by decide +kernel
theorem dL_law_26 : decode cL_law 26 = .ok (.aload_n 0, 1) := by decide +kernel
theorem dL_law_27 : decode cL_law 27 = .ok (.iload_n 3, 1) := by decide +kernel
theorem dL_law_28 : decode cL_law 28 = .ok (.iaload, 1) := by decide +kernel
theorem dL_law_29 : decode cL_law 29 = .ok (.bipush 63, 2) := by decide +kernel
theorem dL_law_31 : decode cL_law 31 = .ok (.iand, 1) := by decide +kernel
theorem dL_law_32 : decode cL_law 32 = .ok (.tableswitch 1156 0 33 #[152, 185, 208, 221, 244, 277, 310, 353, 386, 419, 453, 497, 551, 585, 629, 643, 687, 710, 723, 736, 770, 804, 848, 882, 905, 929, 962, 995, 1008, 1051, 1074, 1107, 1120, 1133], 152) := by decide +kernel
theorem dL_law_184 : decode cL_law 184 = .ok (.aload_n 1, 1) := by decide +kernel
theorem dL_law_185 : decode cL_law 185 = .ok (.aload_n 0, 1) := by decide +kernel
theorem dL_law_186 : decode cL_law 186 = .ok (.iload_n 3, 1) := by decide +kernel
theorem dL_law_187 : decode cL_law 187 = .ok (.iconst 1, 1) := by decide +kernel
theorem dL_law_188 : decode cL_law 188 = .ok (.iadd, 1) := by decide +kernel
theorem dL_law_189 : decode cL_law 189 = .ok (.iaload, 1) := by decide +kernel
theorem dL_law_190 : decode cL_law 190 = .ok (.aload_n 0, 1) := by decide +kernel
theorem dL_law_191 : decode cL_law 191 = .ok (.iload_n 3, 1) := by decide +kernel
theorem dL_law_192 : decode cL_law 192 = .ok (.iconst 2, 1) := by decide +kernel
theorem dL_law_193 : decode cL_law 193 = .ok (.iadd, 1) := by decide +kernel
theorem dL_law_194 : decode cL_law 194 = .ok (.iaload, 1) := by decide +kernel
theorem dL_law_195 : decode cL_law 195 = .ok (.invokevirtual 13, 3) := by decide +kernel
theorem dL_law_198 : decode cL_law 198 = .ok (.aload_n 2, 1) := by decide +kernel
theorem dL_law_199 : decode cL_law 199 = .ok (.aload_n 0, 1) := by decide +kernel
theorem dL_law_200 : decode cL_law 200 = .ok (.iload_n 3, 1) := by decide +kernel
theorem dL_law_201 : decode cL_law 201 = .ok (.iconst 1, 1) := by decide +kernel
theorem dL_law_202 : decode cL_law 202 = .ok (.iadd, 1) := by decide +kernel
theorem dL_law_203 : decode cL_law 203 = .ok (.iaload, 1) := by decide +kernel
theorem dL_law_204 : decode cL_law 204 = .ok (.aload_n 0, 1) := by decide +kernel
theorem dL_law_205 : decode cL_law 205 = .ok (.iload_n 3, 1) := by decide +kernel
theorem dL_law_206 : decode cL_law 206 = .ok (.iconst 2, 1) := by decide +kernel
theorem dL_law_207 : decode cL_law 207 = .ok (.iadd, 1) := by decide +kernel
theorem dL_law_208 : decode cL_law 208 = .ok (.iaload, 1) := by decide +kernel
theorem dL_law_209 : decode cL_law 209 = .ok (.invokevirtual 17, 3) := by decide +kernel
theorem dL_law_212 : decode cL_law 212 = .ok (.if_icmp .eq 976, 3) := by decide +kernel
theorem dL_law_215 : decode cL_law 215 = .ok (.iconst 0, 1) := by decide +kernel
theorem dL_law_216 : decode cL_law 216 = .ok (.ireturn, 1) := by decide +kernel
theorem dL_law_217 : decode cL_law 217 = .ok (.aload_n 1, 1) := by decide +kernel
theorem dL_law_218 : decode cL_law 218 = .ok (.aload_n 0, 1) := by decide +kernel
theorem dL_law_219 : decode cL_law 219 = .ok (.iload_n 3, 1) := by decide +kernel
theorem dL_law_220 : decode cL_law 220 = .ok (.iconst 1, 1) := by decide +kernel
theorem dL_law_221 : decode cL_law 221 = .ok (.iadd, 1) := by decide +kernel
theorem dL_law_222 : decode cL_law 222 = .ok (.iaload, 1) := by decide +kernel
theorem dL_law_223 : decode cL_law 223 = .ok (.invokevirtual 18, 3) := by decide +kernel
theorem dL_law_226 : decode cL_law 226 = .ok (.aload_n 2, 1) := by decide +kernel
theorem dL_law_227 : decode cL_law 227 = .ok (.aload_n 0, 1) := by decide +kernel
theorem dL_law_228 : decode cL_law 228 = .ok (.iload_n 3, 1) := by decide +kernel
theorem dL_law_229 : decode cL_law 229 = .ok (.iconst 1, 1) := by decide +kernel
theorem dL_law_230 : decode cL_law 230 = .ok (.iadd, 1) := by decide +kernel
theorem dL_law_231 : decode cL_law 231 = .ok (.iaload, 1) := by decide +kernel
theorem dL_law_232 : decode cL_law 232 = .ok (.invokevirtual 22, 3) := by decide +kernel
theorem dL_law_235 : decode cL_law 235 = .ok (.if_icmp .eq 953, 3) := by decide +kernel
theorem dL_law_238 : decode cL_law 238 = .ok (.iconst 0, 1) := by decide +kernel
theorem dL_law_239 : decode cL_law 239 = .ok (.ireturn, 1) := by decide +kernel
theorem dL_law_240 : decode cL_law 240 = .ok (.aload_n 1, 1) := by decide +kernel
theorem dL_law_241 : decode cL_law 241 = .ok (.invokevirtual 23, 3) := by decide +kernel
theorem dL_law_244 : decode cL_law 244 = .ok (.aload_n 2, 1) := by decide +kernel
theorem dL_law_245 : decode cL_law 245 = .ok (.invokevirtual 27, 3) := by decide +kernel
theorem dL_law_248 : decode cL_law 248 = .ok (.if_icmp .eq 940, 3) := by decide +kernel
theorem dL_law_251 : decode cL_law 251 = .ok (.iconst 0, 1) := by decide +kernel
theorem dL_law_252 : decode cL_law 252 = .ok (.ireturn, 1) := by decide +kernel
theorem dL_law_253 : decode cL_law 253 = .ok (.aload_n 1, 1) := by decide +kernel
theorem dL_law_254 : decode cL_law 254 = .ok (.aload_n 0, 1) := by decide +kernel
theorem dL_law_255 : decode cL_law 255 = .ok (.iload_n 3, 1) := by decide +kernel
theorem dL_law_256 : decode cL_law 256 = .ok (.iconst 1, 1) := by decide +kernel
theorem dL_law_257 : decode cL_law 257 = .ok (.iadd, 1) := by decide +kernel
theorem dL_law_258 : decode cL_law 258 = .ok (.iaload, 1) := by decide +kernel
theorem dL_law_259 : decode cL_law 259 = .ok (.invokevirtual 28, 3) := by decide +kernel
theorem dL_law_262 : decode cL_law 262 = .ok (.aload_n 2, 1) := by decide +kernel
theorem dL_law_263 : decode cL_law 263 = .ok (.aload_n 0, 1) := by decide +kernel
theorem dL_law_264 : decode cL_law 264 = .ok (.iload_n 3, 1) := by decide +kernel
theorem dL_law_265 : decode cL_law 265 = .ok (.iconst 1, 1) := by decide +kernel
theorem dL_law_266 : decode cL_law 266 = .ok (.iadd, 1) := by decide +kernel
theorem dL_law_267 : decode cL_law 267 = .ok (.iaload, 1) := by decide +kernel
theorem dL_law_268 : decode cL_law 268 = .ok (.invokevirtual 31, 3) := by decide +kernel
theorem dL_law_271 : decode cL_law 271 = .ok (.if_icmp .eq 917, 3) := by decide +kernel
theorem dL_law_274 : decode cL_law 274 = .ok (.iconst 0, 1) := by decide +kernel
theorem dL_law_275 : decode cL_law 275 = .ok (.ireturn, 1) := by decide +kernel
theorem dL_law_276 : decode cL_law 276 = .ok (.aload_n 1, 1) := by decide +kernel
theorem dL_law_277 : decode cL_law 277 = .ok (.aload_n 0, 1) := by decide +kernel
theorem dL_law_278 : decode cL_law 278 = .ok (.iload_n 3, 1) := by decide +kernel
theorem dL_law_279 : decode cL_law 279 = .ok (.iconst 1, 1) := by decide +kernel
theorem dL_law_280 : decode cL_law 280 = .ok (.iadd, 1) := by decide +kernel
theorem dL_law_281 : decode cL_law 281 = .ok (.iaload, 1) := by decide +kernel
theorem dL_law_282 : decode cL_law 282 = .ok (.aload_n 0, 1) := by decide +kernel
theorem dL_law_283 : decode cL_law 283 = .ok (.iload_n 3, 1) := by decide +kernel
theorem dL_law_284 : decode cL_law 284 = .ok (.iconst 2, 1) := by decide +kernel
theorem dL_law_285 : decode cL_law 285 = .ok (.iadd, 1) := by decide +kernel
theorem dL_law_286 : decode cL_law 286 = .ok (.iaload, 1) := by decide +kernel
theorem dL_law_287 : decode cL_law 287 = .ok (.invokevirtual 32, 3) := by decide +kernel
theorem dL_law_290 : decode cL_law 290 = .ok (.aload_n 2, 1) := by decide +kernel
theorem dL_law_291 : decode cL_law 291 = .ok (.aload_n 0, 1) := by decide +kernel
theorem dL_law_292 : decode cL_law 292 = .ok (.iload_n 3, 1) := by decide +kernel
theorem dL_law_293 : decode cL_law 293 = .ok (.iconst 1, 1) := by decide +kernel
theorem dL_law_294 : decode cL_law 294 = .ok (.iadd, 1) := by decide +kernel
theorem dL_law_295 : decode cL_law 295 = .ok (.iaload, 1) := by decide +kernel
theorem dL_law_296 : decode cL_law 296 = .ok (.aload_n 0, 1) := by decide +kernel
theorem dL_law_297 : decode cL_law 297 = .ok (.iload_n 3, 1) := by decide +kernel
theorem dL_law_298 : decode cL_law 298 = .ok (.iconst 2, 1) := by decide +kernel
theorem dL_law_299 : decode cL_law 299 = .ok (.iadd, 1) := by decide +kernel
theorem dL_law_300 : decode cL_law 300 = .ok (.iaload, 1) := by decide +kernel
theorem dL_law_301 : decode cL_law 301 = .ok (.invokevirtual 35, 3) := by decide +kernel
theorem dL_law_304 : decode cL_law 304 = .ok (.if_icmp .eq 884, 3) := by decide +kernel
theorem dL_law_307 : decode cL_law 307 = .ok (.iconst 0, 1) := by decide +kernel
theorem dL_law_308 : decode cL_law 308 = .ok (.ireturn, 1) := by decide +kernel
theorem dL_law_309 : decode cL_law 309 = .ok (.aload_n 1, 1) := by decide +kernel
theorem dL_law_310 : decode cL_law 310 = .ok (.aload_n 0, 1) := by decide +kernel
theorem dL_law_311 : decode cL_law 311 = .ok (.iload_n 3, 1) := by decide +kernel
theorem dL_law_312 : decode cL_law 312 = .ok (.iconst 1, 1) := by decide +kernel
theorem dL_law_313 : decode cL_law 313 = .ok (.iadd, 1) := by decide +kernel
theorem dL_law_314 : decode cL_law 314 = .ok (.iaload, 1) := by decide +kernel
theorem dL_law_315 : decode cL_law 315 = .ok (.aload_n 0, 1) := by decide +kernel
theorem dL_law_316 : decode cL_law 316 = .ok (.iload_n 3, 1) := by decide +kernel
theorem dL_law_317 : decode cL_law 317 = .ok (.iconst 2, 1) := by decide +kernel
theorem dL_law_318 : decode cL_law 318 = .ok (.iadd, 1) := by decide +kernel
theorem dL_law_319 : decode cL_law 319 = .ok (.iaload, 1) := by decide +kernel
theorem dL_law_320 : decode cL_law 320 = .ok (.invokevirtual 36, 3) := by decide +kernel
theorem dL_law_323 : decode cL_law 323 = .ok (.aload_n 2, 1) := by decide +kernel
theorem dL_law_324 : decode cL_law 324 = .ok (.aload_n 0, 1) := by decide +kernel
theorem dL_law_325 : decode cL_law 325 = .ok (.iload_n 3, 1) := by decide +kernel
theorem dL_law_326 : decode cL_law 326 = .ok (.iconst 1, 1) := by decide +kernel
theorem dL_law_327 : decode cL_law 327 = .ok (.iadd, 1) := by decide +kernel
theorem dL_law_328 : decode cL_law 328 = .ok (.iaload, 1) := by decide +kernel
theorem dL_law_329 : decode cL_law 329 = .ok (.aload_n 0, 1) := by decide +kernel
theorem dL_law_330 : decode cL_law 330 = .ok (.iload_n 3, 1) := by decide +kernel
theorem dL_law_331 : decode cL_law 331 = .ok (.iconst 2, 1) := by decide +kernel
theorem dL_law_332 : decode cL_law 332 = .ok (.iadd, 1) := by decide +kernel
theorem dL_law_333 : decode cL_law 333 = .ok (.iaload, 1) := by decide +kernel
theorem dL_law_334 : decode cL_law 334 = .ok (.invokevirtual 39, 3) := by decide +kernel
theorem dL_law_337 : decode cL_law 337 = .ok (.if_icmp .eq 851, 3) := by decide +kernel
theorem dL_law_340 : decode cL_law 340 = .ok (.iconst 0, 1) := by decide +kernel
theorem dL_law_341 : decode cL_law 341 = .ok (.ireturn, 1) := by decide +kernel
theorem dL_law_342 : decode cL_law 342 = .ok (.aload_n 1, 1) := by decide +kernel
theorem dL_law_343 : decode cL_law 343 = .ok (.aload_n 0, 1) := by decide +kernel
theorem dL_law_344 : decode cL_law 344 = .ok (.iload_n 3, 1) := by decide +kernel
theorem dL_law_345 : decode cL_law 345 = .ok (.iconst 1, 1) := by decide +kernel
theorem dL_law_346 : decode cL_law 346 = .ok (.iadd, 1) := by decide +kernel
theorem dL_law_347 : decode cL_law 347 = .ok (.iaload, 1) := by decide +kernel
theorem dL_law_348 : decode cL_law 348 = .ok (.aload_n 0, 1) := by decide +kernel
theorem dL_law_349 : decode cL_law 349 = .ok (.iload_n 3, 1) := by decide +kernel
theorem dL_law_350 : decode cL_law 350 = .ok (.iconst 2, 1) := by decide +kernel
theorem dL_law_351 : decode cL_law 351 = .ok (.iadd, 1) := by decide +kernel
theorem dL_law_352 : decode cL_law 352 = .ok (.iaload, 1) := by decide +kernel
theorem dL_law_353 : decode cL_law 353 = .ok (.aload_n 0, 1) := by decide +kernel
theorem dL_law_354 : decode cL_law 354 = .ok (.iload_n 3, 1) := by decide +kernel
theorem dL_law_355 : decode cL_law 355 = .ok (.iconst 3, 1) := by decide +kernel
theorem dL_law_356 : decode cL_law 356 = .ok (.iadd, 1) := by decide +kernel
theorem dL_law_357 : decode cL_law 357 = .ok (.iaload, 1) := by decide +kernel
theorem dL_law_358 : decode cL_law 358 = .ok (.invokevirtual 40, 3) := by decide +kernel
theorem dL_law_361 : decode cL_law 361 = .ok (.aload_n 2, 1) := by decide +kernel
theorem dL_law_362 : decode cL_law 362 = .ok (.aload_n 0, 1) := by decide +kernel
theorem dL_law_363 : decode cL_law 363 = .ok (.iload_n 3, 1) := by decide +kernel
theorem dL_law_364 : decode cL_law 364 = .ok (.iconst 1, 1) := by decide +kernel
theorem dL_law_365 : decode cL_law 365 = .ok (.iadd, 1) := by decide +kernel
theorem dL_law_366 : decode cL_law 366 = .ok (.iaload, 1) := by decide +kernel
theorem dL_law_367 : decode cL_law 367 = .ok (.aload_n 0, 1) := by decide +kernel
theorem dL_law_368 : decode cL_law 368 = .ok (.iload_n 3, 1) := by decide +kernel
theorem dL_law_369 : decode cL_law 369 = .ok (.iconst 2, 1) := by decide +kernel
theorem dL_law_370 : decode cL_law 370 = .ok (.iadd, 1) := by decide +kernel
theorem dL_law_371 : decode cL_law 371 = .ok (.iaload, 1) := by decide +kernel
theorem dL_law_372 : decode cL_law 372 = .ok (.aload_n 0, 1) := by decide +kernel
theorem dL_law_373 : decode cL_law 373 = .ok (.iload_n 3, 1) := by decide +kernel
theorem dL_law_374 : decode cL_law 374 = .ok (.iconst 3, 1) := by decide +kernel
theorem dL_law_375 : decode cL_law 375 = .ok (.iadd, 1) := by decide +kernel
theorem dL_law_376 : decode cL_law 376 = .ok (.iaload, 1) := by decide +kernel
theorem dL_law_377 : decode cL_law 377 = .ok (.invokevirtual 44, 3) := by decide +kernel
theorem dL_law_380 : decode cL_law 380 = .ok (.if_icmp .eq 808, 3) := by decide +kernel
theorem dL_law_383 : decode cL_law 383 = .ok (.iconst 0, 1) := by decide +kernel
theorem dL_law_384 : decode cL_law 384 = .ok (.ireturn, 1) := by decide +kernel
theorem dL_law_385 : decode cL_law 385 = .ok (.aload_n 1, 1) := by decide +kernel
theorem dL_law_386 : decode cL_law 386 = .ok (.aload_n 0, 1) := by decide +kernel
theorem dL_law_387 : decode cL_law 387 = .ok (.iload_n 3, 1) := by decide +kernel
theorem dL_law_388 : decode cL_law 388 = .ok (.iconst 1, 1) := by decide +kernel
theorem dL_law_389 : decode cL_law 389 = .ok (.iadd, 1) := by decide +kernel
theorem dL_law_390 : decode cL_law 390 = .ok (.iaload, 1) := by decide +kernel
theorem dL_law_391 : decode cL_law 391 = .ok (.aload_n 0, 1) := by decide +kernel
theorem dL_law_392 : decode cL_law 392 = .ok (.iload_n 3, 1) := by decide +kernel
theorem dL_law_393 : decode cL_law 393 = .ok (.iconst 2, 1) := by decide +kernel
theorem dL_law_394 : decode cL_law 394 = .ok (.iadd, 1) := by decide +kernel
theorem dL_law_395 : decode cL_law 395 = .ok (.iaload, 1) := by decide +kernel
theorem dL_law_396 : decode cL_law 396 = .ok (.invokevirtual 45, 3) := by decide +kernel
theorem dL_law_399 : decode cL_law 399 = .ok (.aload_n 2, 1) := by decide +kernel
theorem dL_law_400 : decode cL_law 400 = .ok (.aload_n 0, 1) := by decide +kernel
theorem dL_law_401 : decode cL_law 401 = .ok (.iload_n 3, 1) := by decide +kernel
theorem dL_law_402 : decode cL_law 402 = .ok (.iconst 1, 1) := by decide +kernel
theorem dL_law_403 : decode cL_law 403 = .ok (.iadd, 1) := by decide +kernel
theorem dL_law_404 : decode cL_law 404 = .ok (.iaload, 1) := by decide +kernel
theorem dL_law_405 : decode cL_law 405 = .ok (.aload_n 0, 1) := by decide +kernel
theorem dL_law_406 : decode cL_law 406 = .ok (.iload_n 3, 1) := by decide +kernel
theorem dL_law_407 : decode cL_law 407 = .ok (.iconst 2, 1) := by decide +kernel
theorem dL_law_408 : decode cL_law 408 = .ok (.iadd, 1) := by decide +kernel
theorem dL_law_409 : decode cL_law 409 = .ok (.iaload, 1) := by decide +kernel
theorem dL_law_410 : decode cL_law 410 = .ok (.invokevirtual 48, 3) := by decide +kernel
theorem dL_law_413 : decode cL_law 413 = .ok (.if_icmp .eq 775, 3) := by decide +kernel
theorem dL_law_416 : decode cL_law 416 = .ok (.iconst 0, 1) := by decide +kernel
theorem dL_law_417 : decode cL_law 417 = .ok (.ireturn, 1) := by decide +kernel
theorem dL_law_418 : decode cL_law 418 = .ok (.aload_n 1, 1) := by decide +kernel
theorem dL_law_419 : decode cL_law 419 = .ok (.aload_n 0, 1) := by decide +kernel
theorem dL_law_420 : decode cL_law 420 = .ok (.iload_n 3, 1) := by decide +kernel
theorem dL_law_421 : decode cL_law 421 = .ok (.iconst 1, 1) := by decide +kernel
theorem dL_law_422 : decode cL_law 422 = .ok (.iadd, 1) := by decide +kernel
theorem dL_law_423 : decode cL_law 423 = .ok (.iaload, 1) := by decide +kernel
theorem dL_law_424 : decode cL_law 424 = .ok (.aload_n 0, 1) := by decide +kernel
theorem dL_law_425 : decode cL_law 425 = .ok (.iload_n 3, 1) := by decide +kernel
theorem dL_law_426 : decode cL_law 426 = .ok (.iconst 2, 1) := by decide +kernel
theorem dL_law_427 : decode cL_law 427 = .ok (.iadd, 1) := by decide +kernel
theorem dL_law_428 : decode cL_law 428 = .ok (.iaload, 1) := by decide +kernel
theorem dL_law_429 : decode cL_law 429 = .ok (.invokevirtual 49, 3) := by decide +kernel
theorem dL_law_432 : decode cL_law 432 = .ok (.aload_n 2, 1) := by decide +kernel
theorem dL_law_433 : decode cL_law 433 = .ok (.aload_n 0, 1) := by decide +kernel
theorem dL_law_434 : decode cL_law 434 = .ok (.iload_n 3, 1) := by decide +kernel
theorem dL_law_435 : decode cL_law 435 = .ok (.iconst 1, 1) := by decide +kernel
theorem dL_law_436 : decode cL_law 436 = .ok (.iadd, 1) := by decide +kernel
theorem dL_law_437 : decode cL_law 437 = .ok (.iaload, 1) := by decide +kernel
theorem dL_law_438 : decode cL_law 438 = .ok (.aload_n 0, 1) := by decide +kernel
theorem dL_law_439 : decode cL_law 439 = .ok (.iload_n 3, 1) := by decide +kernel
theorem dL_law_440 : decode cL_law 440 = .ok (.iconst 2, 1) := by decide +kernel
theorem dL_law_441 : decode cL_law 441 = .ok (.iadd, 1) := by decide +kernel
theorem dL_law_442 : decode cL_law 442 = .ok (.iaload, 1) := by decide +kernel
theorem dL_law_443 : decode cL_law 443 = .ok (.invokevirtual 52, 3) := by decide +kernel
theorem dL_law_446 : decode cL_law 446 = .ok (.if_icmp .eq 742, 3) := by decide +kernel
theorem dL_law_449 : decode cL_law 449 = .ok (.iconst 0, 1) := by decide +kernel
theorem dL_law_450 : decode cL_law 450 = .ok (.ireturn, 1) := by decide +kernel
theorem dL_law_451 : decode cL_law 451 = .ok (.aload_n 1, 1) := by decide +kernel
theorem dL_law_452 : decode cL_law 452 = .ok (.aload_n 0, 1) := by decide +kernel
theorem dL_law_453 : decode cL_law 453 = .ok (.iload_n 3, 1) := by decide +kernel
theorem dL_law_454 : decode cL_law 454 = .ok (.iconst 1, 1) := by decide +kernel
theorem dL_law_455 : decode cL_law 455 = .ok (.iadd, 1) := by decide +kernel
theorem dL_law_456 : decode cL_law 456 = .ok (.iaload, 1) := by decide +kernel
theorem dL_law_457 : decode cL_law 457 = .ok (.aload_n 0, 1) := by decide +kernel
theorem dL_law_458 : decode cL_law 458 = .ok (.iload_n 3, 1) := by decide +kernel
theorem dL_law_459 : decode cL_law 459 = .ok (.iconst 2, 1) := by decide +kernel
theorem dL_law_460 : decode cL_law 460 = .ok (.iadd, 1) := by decide +kernel
theorem dL_law_461 : decode cL_law 461 = .ok (.iaload, 1) := by decide +kernel
theorem dL_law_462 : decode cL_law 462 = .ok (.invokevirtual 53, 3) := by decide +kernel
theorem dL_law_465 : decode cL_law 465 = .ok (.aload_n 2, 1) := by decide +kernel
theorem dL_law_466 : decode cL_law 466 = .ok (.aload_n 0, 1) := by decide +kernel
theorem dL_law_467 : decode cL_law 467 = .ok (.iload_n 3, 1) := by decide +kernel
theorem dL_law_468 : decode cL_law 468 = .ok (.iconst 1, 1) := by decide +kernel
theorem dL_law_469 : decode cL_law 469 = .ok (.iadd, 1) := by decide +kernel
theorem dL_law_470 : decode cL_law 470 = .ok (.iaload, 1) := by decide +kernel
theorem dL_law_471 : decode cL_law 471 = .ok (.aload_n 0, 1) := by decide +kernel
theorem dL_law_472 : decode cL_law 472 = .ok (.iload_n 3, 1) := by decide +kernel
theorem dL_law_473 : decode cL_law 473 = .ok (.iconst 2, 1) := by decide +kernel
theorem dL_law_474 : decode cL_law 474 = .ok (.iadd, 1) := by decide +kernel
theorem dL_law_475 : decode cL_law 475 = .ok (.iaload, 1) := by decide +kernel
theorem dL_law_476 : decode cL_law 476 = .ok (.invokevirtual 57, 3) := by decide +kernel
theorem dL_law_479 : decode cL_law 479 = .ok (.lcmp, 1) := by decide +kernel
theorem dL_law_480 : decode cL_law 480 = .ok (.ifCond .eq 708, 3) := by decide +kernel
theorem dL_law_483 : decode cL_law 483 = .ok (.iconst 0, 1) := by decide +kernel
theorem dL_law_484 : decode cL_law 484 = .ok (.ireturn, 1) := by decide +kernel
theorem dL_law_485 : decode cL_law 485 = .ok (.aload_n 1, 1) := by decide +kernel
theorem dL_law_486 : decode cL_law 486 = .ok (.aload_n 0, 1) := by decide +kernel
theorem dL_law_487 : decode cL_law 487 = .ok (.iload_n 3, 1) := by decide +kernel
theorem dL_law_488 : decode cL_law 488 = .ok (.iconst 1, 1) := by decide +kernel
theorem dL_law_489 : decode cL_law 489 = .ok (.iadd, 1) := by decide +kernel
theorem dL_law_490 : decode cL_law 490 = .ok (.iaload, 1) := by decide +kernel
theorem dL_law_491 : decode cL_law 491 = .ok (.aload_n 0, 1) := by decide +kernel
theorem dL_law_492 : decode cL_law 492 = .ok (.iload_n 3, 1) := by decide +kernel
theorem dL_law_493 : decode cL_law 493 = .ok (.iconst 2, 1) := by decide +kernel
theorem dL_law_494 : decode cL_law 494 = .ok (.iadd, 1) := by decide +kernel
theorem dL_law_495 : decode cL_law 495 = .ok (.iaload, 1) := by decide +kernel
theorem dL_law_496 : decode cL_law 496 = .ok (.aload_n 0, 1) := by decide +kernel
theorem dL_law_497 : decode cL_law 497 = .ok (.iload_n 3, 1) := by decide +kernel
theorem dL_law_498 : decode cL_law 498 = .ok (.iconst 3, 1) := by decide +kernel
theorem dL_law_499 : decode cL_law 499 = .ok (.iadd, 1) := by decide +kernel
theorem dL_law_500 : decode cL_law 500 = .ok (.iaload, 1) := by decide +kernel
theorem dL_law_501 : decode cL_law 501 = .ok (.invokevirtual 58, 3) := by decide +kernel
theorem dL_law_504 : decode cL_law 504 = .ok (.aload_n 2, 1) := by decide +kernel
theorem dL_law_505 : decode cL_law 505 = .ok (.aload_n 0, 1) := by decide +kernel
theorem dL_law_506 : decode cL_law 506 = .ok (.iload_n 3, 1) := by decide +kernel
theorem dL_law_507 : decode cL_law 507 = .ok (.iconst 1, 1) := by decide +kernel
theorem dL_law_508 : decode cL_law 508 = .ok (.iadd, 1) := by decide +kernel
theorem dL_law_509 : decode cL_law 509 = .ok (.iaload, 1) := by decide +kernel
theorem dL_law_510 : decode cL_law 510 = .ok (.aload_n 0, 1) := by decide +kernel
theorem dL_law_511 : decode cL_law 511 = .ok (.iload_n 3, 1) := by decide +kernel
theorem dL_law_512 : decode cL_law 512 = .ok (.iconst 2, 1) := by decide +kernel
theorem dL_law_513 : decode cL_law 513 = .ok (.iadd, 1) := by decide +kernel
theorem dL_law_514 : decode cL_law 514 = .ok (.iaload, 1) := by decide +kernel
theorem dL_law_515 : decode cL_law 515 = .ok (.aload_n 0, 1) := by decide +kernel
theorem dL_law_516 : decode cL_law 516 = .ok (.iload_n 3, 1) := by decide +kernel
theorem dL_law_517 : decode cL_law 517 = .ok (.iconst 3, 1) := by decide +kernel
theorem dL_law_518 : decode cL_law 518 = .ok (.iadd, 1) := by decide +kernel
theorem dL_law_519 : decode cL_law 519 = .ok (.iaload, 1) := by decide +kernel
theorem dL_law_520 : decode cL_law 520 = .ok (.invokevirtual 62, 3) := by decide +kernel
theorem dL_law_523 : decode cL_law 523 = .ok (.lcmp, 1) := by decide +kernel
theorem dL_law_524 : decode cL_law 524 = .ok (.ifCond .eq 664, 3) := by decide +kernel
theorem dL_law_527 : decode cL_law 527 = .ok (.iconst 0, 1) := by decide +kernel
theorem dL_law_528 : decode cL_law 528 = .ok (.ireturn, 1) := by decide +kernel
theorem dL_law_529 : decode cL_law 529 = .ok (.aload_n 1, 1) := by decide +kernel
theorem dL_law_530 : decode cL_law 530 = .ok (.aload_n 0, 1) := by decide +kernel
theorem dL_law_531 : decode cL_law 531 = .ok (.iload_n 3, 1) := by decide +kernel
theorem dL_law_532 : decode cL_law 532 = .ok (.iconst 1, 1) := by decide +kernel
theorem dL_law_533 : decode cL_law 533 = .ok (.iadd, 1) := by decide +kernel
theorem dL_law_534 : decode cL_law 534 = .ok (.iaload, 1) := by decide +kernel
theorem dL_law_535 : decode cL_law 535 = .ok (.aload_n 0, 1) := by decide +kernel
theorem dL_law_536 : decode cL_law 536 = .ok (.iload_n 3, 1) := by decide +kernel
theorem dL_law_537 : decode cL_law 537 = .ok (.iconst 2, 1) := by decide +kernel
theorem dL_law_538 : decode cL_law 538 = .ok (.iadd, 1) := by decide +kernel
theorem dL_law_539 : decode cL_law 539 = .ok (.iaload, 1) := by decide +kernel
theorem dL_law_540 : decode cL_law 540 = .ok (.aload_n 0, 1) := by decide +kernel
theorem dL_law_541 : decode cL_law 541 = .ok (.iload_n 3, 1) := by decide +kernel
theorem dL_law_542 : decode cL_law 542 = .ok (.iconst 3, 1) := by decide +kernel
theorem dL_law_543 : decode cL_law 543 = .ok (.iadd, 1) := by decide +kernel
theorem dL_law_544 : decode cL_law 544 = .ok (.iaload, 1) := by decide +kernel
theorem dL_law_545 : decode cL_law 545 = .ok (.aload_n 0, 1) := by decide +kernel
theorem dL_law_546 : decode cL_law 546 = .ok (.iload_n 3, 1) := by decide +kernel
theorem dL_law_547 : decode cL_law 547 = .ok (.iconst 4, 1) := by decide +kernel
theorem dL_law_548 : decode cL_law 548 = .ok (.iadd, 1) := by decide +kernel
theorem dL_law_549 : decode cL_law 549 = .ok (.iaload, 1) := by decide +kernel
theorem dL_law_550 : decode cL_law 550 = .ok (.invokevirtual 63, 3) := by decide +kernel
theorem dL_law_553 : decode cL_law 553 = .ok (.aload_n 2, 1) := by decide +kernel
theorem dL_law_554 : decode cL_law 554 = .ok (.aload_n 0, 1) := by decide +kernel
theorem dL_law_555 : decode cL_law 555 = .ok (.iload_n 3, 1) := by decide +kernel
theorem dL_law_556 : decode cL_law 556 = .ok (.iconst 1, 1) := by decide +kernel
theorem dL_law_557 : decode cL_law 557 = .ok (.iadd, 1) := by decide +kernel
theorem dL_law_558 : decode cL_law 558 = .ok (.iaload, 1) := by decide +kernel
theorem dL_law_559 : decode cL_law 559 = .ok (.aload_n 0, 1) := by decide +kernel
theorem dL_law_560 : decode cL_law 560 = .ok (.iload_n 3, 1) := by decide +kernel
theorem dL_law_561 : decode cL_law 561 = .ok (.iconst 2, 1) := by decide +kernel
theorem dL_law_562 : decode cL_law 562 = .ok (.iadd, 1) := by decide +kernel
theorem dL_law_563 : decode cL_law 563 = .ok (.iaload, 1) := by decide +kernel
theorem dL_law_564 : decode cL_law 564 = .ok (.aload_n 0, 1) := by decide +kernel
theorem dL_law_565 : decode cL_law 565 = .ok (.iload_n 3, 1) := by decide +kernel
theorem dL_law_566 : decode cL_law 566 = .ok (.iconst 3, 1) := by decide +kernel
theorem dL_law_567 : decode cL_law 567 = .ok (.iadd, 1) := by decide +kernel
theorem dL_law_568 : decode cL_law 568 = .ok (.iaload, 1) := by decide +kernel
theorem dL_law_569 : decode cL_law 569 = .ok (.aload_n 0, 1) := by decide +kernel
theorem dL_law_570 : decode cL_law 570 = .ok (.iload_n 3, 1) := by decide +kernel
theorem dL_law_571 : decode cL_law 571 = .ok (.iconst 4, 1) := by decide +kernel
theorem dL_law_572 : decode cL_law 572 = .ok (.iadd, 1) := by decide +kernel
theorem dL_law_573 : decode cL_law 573 = .ok (.iaload, 1) := by decide +kernel
theorem dL_law_574 : decode cL_law 574 = .ok (.invokevirtual 67, 3) := by decide +kernel
theorem dL_law_577 : decode cL_law 577 = .ok (.lcmp, 1) := by decide +kernel
theorem dL_law_578 : decode cL_law 578 = .ok (.ifCond .eq 610, 3) := by decide +kernel
theorem dL_law_581 : decode cL_law 581 = .ok (.iconst 0, 1) := by decide +kernel
theorem dL_law_582 : decode cL_law 582 = .ok (.ireturn, 1) := by decide +kernel
theorem dL_law_583 : decode cL_law 583 = .ok (.aload_n 1, 1) := by decide +kernel
theorem dL_law_584 : decode cL_law 584 = .ok (.aload_n 0, 1) := by decide +kernel
theorem dL_law_585 : decode cL_law 585 = .ok (.iload_n 3, 1) := by decide +kernel
theorem dL_law_586 : decode cL_law 586 = .ok (.iconst 1, 1) := by decide +kernel
theorem dL_law_587 : decode cL_law 587 = .ok (.iadd, 1) := by decide +kernel
theorem dL_law_588 : decode cL_law 588 = .ok (.iaload, 1) := by decide +kernel
theorem dL_law_589 : decode cL_law 589 = .ok (.aload_n 0, 1) := by decide +kernel
theorem dL_law_590 : decode cL_law 590 = .ok (.iload_n 3, 1) := by decide +kernel
theorem dL_law_591 : decode cL_law 591 = .ok (.iconst 2, 1) := by decide +kernel
theorem dL_law_592 : decode cL_law 592 = .ok (.iadd, 1) := by decide +kernel
theorem dL_law_593 : decode cL_law 593 = .ok (.iaload, 1) := by decide +kernel
theorem dL_law_594 : decode cL_law 594 = .ok (.invokevirtual 68, 3) := by decide +kernel
theorem dL_law_597 : decode cL_law 597 = .ok (.aload_n 2, 1) := by decide +kernel
theorem dL_law_598 : decode cL_law 598 = .ok (.aload_n 0, 1) := by decide +kernel
theorem dL_law_599 : decode cL_law 599 = .ok (.iload_n 3, 1) := by decide +kernel
theorem dL_law_600 : decode cL_law 600 = .ok (.iconst 1, 1) := by decide +kernel
theorem dL_law_601 : decode cL_law 601 = .ok (.iadd, 1) := by decide +kernel
theorem dL_law_602 : decode cL_law 602 = .ok (.iaload, 1) := by decide +kernel
theorem dL_law_603 : decode cL_law 603 = .ok (.aload_n 0, 1) := by decide +kernel
theorem dL_law_604 : decode cL_law 604 = .ok (.iload_n 3, 1) := by decide +kernel
theorem dL_law_605 : decode cL_law 605 = .ok (.iconst 2, 1) := by decide +kernel
theorem dL_law_606 : decode cL_law 606 = .ok (.iadd, 1) := by decide +kernel
theorem dL_law_607 : decode cL_law 607 = .ok (.iaload, 1) := by decide +kernel
theorem dL_law_608 : decode cL_law 608 = .ok (.invokevirtual 71, 3) := by decide +kernel
theorem dL_law_611 : decode cL_law 611 = .ok (.lcmp, 1) := by decide +kernel
theorem dL_law_612 : decode cL_law 612 = .ok (.ifCond .eq 576, 3) := by decide +kernel
theorem dL_law_615 : decode cL_law 615 = .ok (.iconst 0, 1) := by decide +kernel
theorem dL_law_616 : decode cL_law 616 = .ok (.ireturn, 1) := by decide +kernel
theorem dL_law_617 : decode cL_law 617 = .ok (.aload_n 1, 1) := by decide +kernel
theorem dL_law_618 : decode cL_law 618 = .ok (.aload_n 0, 1) := by decide +kernel
theorem dL_law_619 : decode cL_law 619 = .ok (.iload_n 3, 1) := by decide +kernel
theorem dL_law_620 : decode cL_law 620 = .ok (.iconst 1, 1) := by decide +kernel
theorem dL_law_621 : decode cL_law 621 = .ok (.iadd, 1) := by decide +kernel
theorem dL_law_622 : decode cL_law 622 = .ok (.iaload, 1) := by decide +kernel
theorem dL_law_623 : decode cL_law 623 = .ok (.aload_n 0, 1) := by decide +kernel
theorem dL_law_624 : decode cL_law 624 = .ok (.iload_n 3, 1) := by decide +kernel
theorem dL_law_625 : decode cL_law 625 = .ok (.iconst 2, 1) := by decide +kernel
theorem dL_law_626 : decode cL_law 626 = .ok (.iadd, 1) := by decide +kernel
theorem dL_law_627 : decode cL_law 627 = .ok (.iaload, 1) := by decide +kernel
theorem dL_law_628 : decode cL_law 628 = .ok (.aload_n 0, 1) := by decide +kernel
theorem dL_law_629 : decode cL_law 629 = .ok (.iload_n 3, 1) := by decide +kernel
theorem dL_law_630 : decode cL_law 630 = .ok (.iconst 3, 1) := by decide +kernel
theorem dL_law_631 : decode cL_law 631 = .ok (.iadd, 1) := by decide +kernel
theorem dL_law_632 : decode cL_law 632 = .ok (.iaload, 1) := by decide +kernel
theorem dL_law_633 : decode cL_law 633 = .ok (.invokevirtual 72, 3) := by decide +kernel
theorem dL_law_636 : decode cL_law 636 = .ok (.aload_n 2, 1) := by decide +kernel
theorem dL_law_637 : decode cL_law 637 = .ok (.aload_n 0, 1) := by decide +kernel
theorem dL_law_638 : decode cL_law 638 = .ok (.iload_n 3, 1) := by decide +kernel
theorem dL_law_639 : decode cL_law 639 = .ok (.iconst 1, 1) := by decide +kernel
theorem dL_law_640 : decode cL_law 640 = .ok (.iadd, 1) := by decide +kernel
theorem dL_law_641 : decode cL_law 641 = .ok (.iaload, 1) := by decide +kernel
theorem dL_law_642 : decode cL_law 642 = .ok (.aload_n 0, 1) := by decide +kernel
theorem dL_law_643 : decode cL_law 643 = .ok (.iload_n 3, 1) := by decide +kernel
theorem dL_law_644 : decode cL_law 644 = .ok (.iconst 2, 1) := by decide +kernel
theorem dL_law_645 : decode cL_law 645 = .ok (.iadd, 1) := by decide +kernel
theorem dL_law_646 : decode cL_law 646 = .ok (.iaload, 1) := by decide +kernel
theorem dL_law_647 : decode cL_law 647 = .ok (.aload_n 0, 1) := by decide +kernel
theorem dL_law_648 : decode cL_law 648 = .ok (.iload_n 3, 1) := by decide +kernel
theorem dL_law_649 : decode cL_law 649 = .ok (.iconst 3, 1) := by decide +kernel
theorem dL_law_650 : decode cL_law 650 = .ok (.iadd, 1) := by decide +kernel
theorem dL_law_651 : decode cL_law 651 = .ok (.iaload, 1) := by decide +kernel
theorem dL_law_652 : decode cL_law 652 = .ok (.invokevirtual 75, 3) := by decide +kernel
theorem dL_law_655 : decode cL_law 655 = .ok (.lcmp, 1) := by decide +kernel
theorem dL_law_656 : decode cL_law 656 = .ok (.ifCond .eq 532, 3) := by decide +kernel
theorem dL_law_659 : decode cL_law 659 = .ok (.iconst 0, 1) := by decide +kernel
theorem dL_law_660 : decode cL_law 660 = .ok (.ireturn, 1) := by decide +kernel
theorem dL_law_661 : decode cL_law 661 = .ok (.aload_n 1, 1) := by decide +kernel
theorem dL_law_662 : decode cL_law 662 = .ok (.invokevirtual 76, 3) := by decide +kernel
theorem dL_law_665 : decode cL_law 665 = .ok (.aload_n 2, 1) := by decide +kernel
theorem dL_law_666 : decode cL_law 666 = .ok (.invokevirtual 80, 3) := by decide +kernel
theorem dL_law_669 : decode cL_law 669 = .ok (.lcmp, 1) := by decide +kernel
theorem dL_law_670 : decode cL_law 670 = .ok (.ifCond .eq 518, 3) := by decide +kernel
theorem dL_law_673 : decode cL_law 673 = .ok (.iconst 0, 1) := by decide +kernel
theorem dL_law_674 : decode cL_law 674 = .ok (.ireturn, 1) := by decide +kernel
theorem dL_law_675 : decode cL_law 675 = .ok (.aload_n 1, 1) := by decide +kernel
theorem dL_law_676 : decode cL_law 676 = .ok (.aload_n 0, 1) := by decide +kernel
theorem dL_law_677 : decode cL_law 677 = .ok (.iload_n 3, 1) := by decide +kernel
theorem dL_law_678 : decode cL_law 678 = .ok (.iconst 1, 1) := by decide +kernel
theorem dL_law_679 : decode cL_law 679 = .ok (.iadd, 1) := by decide +kernel
theorem dL_law_680 : decode cL_law 680 = .ok (.iaload, 1) := by decide +kernel
theorem dL_law_681 : decode cL_law 681 = .ok (.aload_n 0, 1) := by decide +kernel
theorem dL_law_682 : decode cL_law 682 = .ok (.iload_n 3, 1) := by decide +kernel
theorem dL_law_683 : decode cL_law 683 = .ok (.iconst 2, 1) := by decide +kernel
theorem dL_law_684 : decode cL_law 684 = .ok (.iadd, 1) := by decide +kernel
theorem dL_law_685 : decode cL_law 685 = .ok (.iaload, 1) := by decide +kernel
theorem dL_law_686 : decode cL_law 686 = .ok (.aload_n 0, 1) := by decide +kernel
theorem dL_law_687 : decode cL_law 687 = .ok (.iload_n 3, 1) := by decide +kernel
theorem dL_law_688 : decode cL_law 688 = .ok (.iconst 3, 1) := by decide +kernel
theorem dL_law_689 : decode cL_law 689 = .ok (.iadd, 1) := by decide +kernel
theorem dL_law_690 : decode cL_law 690 = .ok (.iaload, 1) := by decide +kernel
theorem dL_law_691 : decode cL_law 691 = .ok (.invokevirtual 81, 3) := by decide +kernel
theorem dL_law_694 : decode cL_law 694 = .ok (.aload_n 2, 1) := by decide +kernel
theorem dL_law_695 : decode cL_law 695 = .ok (.aload_n 0, 1) := by decide +kernel
theorem dL_law_696 : decode cL_law 696 = .ok (.iload_n 3, 1) := by decide +kernel
theorem dL_law_697 : decode cL_law 697 = .ok (.iconst 1, 1) := by decide +kernel
theorem dL_law_698 : decode cL_law 698 = .ok (.iadd, 1) := by decide +kernel
theorem dL_law_699 : decode cL_law 699 = .ok (.iaload, 1) := by decide +kernel
theorem dL_law_700 : decode cL_law 700 = .ok (.aload_n 0, 1) := by decide +kernel
theorem dL_law_701 : decode cL_law 701 = .ok (.iload_n 3, 1) := by decide +kernel
theorem dL_law_702 : decode cL_law 702 = .ok (.iconst 2, 1) := by decide +kernel
theorem dL_law_703 : decode cL_law 703 = .ok (.iadd, 1) := by decide +kernel
theorem dL_law_704 : decode cL_law 704 = .ok (.iaload, 1) := by decide +kernel
theorem dL_law_705 : decode cL_law 705 = .ok (.aload_n 0, 1) := by decide +kernel
theorem dL_law_706 : decode cL_law 706 = .ok (.iload_n 3, 1) := by decide +kernel
theorem dL_law_707 : decode cL_law 707 = .ok (.iconst 3, 1) := by decide +kernel
theorem dL_law_708 : decode cL_law 708 = .ok (.iadd, 1) := by decide +kernel
theorem dL_law_709 : decode cL_law 709 = .ok (.iaload, 1) := by decide +kernel
theorem dL_law_710 : decode cL_law 710 = .ok (.invokevirtual 84, 3) := by decide +kernel
theorem dL_law_713 : decode cL_law 713 = .ok (.lcmp, 1) := by decide +kernel
theorem dL_law_714 : decode cL_law 714 = .ok (.ifCond .eq 474, 3) := by decide +kernel
theorem dL_law_717 : decode cL_law 717 = .ok (.iconst 0, 1) := by decide +kernel
theorem dL_law_718 : decode cL_law 718 = .ok (.ireturn, 1) := by decide +kernel
theorem dL_law_719 : decode cL_law 719 = .ok (.aload_n 1, 1) := by decide +kernel
theorem dL_law_720 : decode cL_law 720 = .ok (.aload_n 0, 1) := by decide +kernel
theorem dL_law_721 : decode cL_law 721 = .ok (.iload_n 3, 1) := by decide +kernel
theorem dL_law_722 : decode cL_law 722 = .ok (.iconst 1, 1) := by decide +kernel
theorem dL_law_723 : decode cL_law 723 = .ok (.iadd, 1) := by decide +kernel
theorem dL_law_724 : decode cL_law 724 = .ok (.iaload, 1) := by decide +kernel
theorem dL_law_725 : decode cL_law 725 = .ok (.invokevirtual 85, 3) := by decide +kernel
theorem dL_law_728 : decode cL_law 728 = .ok (.aload_n 2, 1) := by decide +kernel
theorem dL_law_729 : decode cL_law 729 = .ok (.aload_n 0, 1) := by decide +kernel
theorem dL_law_730 : decode cL_law 730 = .ok (.iload_n 3, 1) := by decide +kernel
theorem dL_law_731 : decode cL_law 731 = .ok (.iconst 1, 1) := by decide +kernel
theorem dL_law_732 : decode cL_law 732 = .ok (.iadd, 1) := by decide +kernel
theorem dL_law_733 : decode cL_law 733 = .ok (.iaload, 1) := by decide +kernel
theorem dL_law_734 : decode cL_law 734 = .ok (.invokevirtual 88, 3) := by decide +kernel
theorem dL_law_737 : decode cL_law 737 = .ok (.if_icmp .eq 451, 3) := by decide +kernel
theorem dL_law_740 : decode cL_law 740 = .ok (.iconst 0, 1) := by decide +kernel
theorem dL_law_741 : decode cL_law 741 = .ok (.ireturn, 1) := by decide +kernel
theorem dL_law_742 : decode cL_law 742 = .ok (.aload_n 1, 1) := by decide +kernel
theorem dL_law_743 : decode cL_law 743 = .ok (.invokevirtual 89, 3) := by decide +kernel
theorem dL_law_746 : decode cL_law 746 = .ok (.aload_n 2, 1) := by decide +kernel
theorem dL_law_747 : decode cL_law 747 = .ok (.invokevirtual 92, 3) := by decide +kernel
theorem dL_law_750 : decode cL_law 750 = .ok (.if_icmp .eq 438, 3) := by decide +kernel
theorem dL_law_753 : decode cL_law 753 = .ok (.iconst 0, 1) := by decide +kernel
theorem dL_law_754 : decode cL_law 754 = .ok (.ireturn, 1) := by decide +kernel
theorem dL_law_755 : decode cL_law 755 = .ok (.aload_n 1, 1) := by decide +kernel
theorem dL_law_756 : decode cL_law 756 = .ok (.invokevirtual 93, 3) := by decide +kernel
theorem dL_law_759 : decode cL_law 759 = .ok (.aload_n 2, 1) := by decide +kernel
theorem dL_law_760 : decode cL_law 760 = .ok (.invokevirtual 96, 3) := by decide +kernel
theorem dL_law_763 : decode cL_law 763 = .ok (.if_icmp .eq 425, 3) := by decide +kernel
theorem dL_law_766 : decode cL_law 766 = .ok (.iconst 0, 1) := by decide +kernel
theorem dL_law_767 : decode cL_law 767 = .ok (.ireturn, 1) := by decide +kernel
theorem dL_law_768 : decode cL_law 768 = .ok (.aload_n 1, 1) := by decide +kernel
theorem dL_law_769 : decode cL_law 769 = .ok (.aload_n 0, 1) := by decide +kernel
theorem dL_law_770 : decode cL_law 770 = .ok (.iload_n 3, 1) := by decide +kernel
theorem dL_law_771 : decode cL_law 771 = .ok (.iconst 1, 1) := by decide +kernel
theorem dL_law_772 : decode cL_law 772 = .ok (.iadd, 1) := by decide +kernel
theorem dL_law_773 : decode cL_law 773 = .ok (.iaload, 1) := by decide +kernel
theorem dL_law_774 : decode cL_law 774 = .ok (.aload_n 0, 1) := by decide +kernel
theorem dL_law_775 : decode cL_law 775 = .ok (.iload_n 3, 1) := by decide +kernel
theorem dL_law_776 : decode cL_law 776 = .ok (.iconst 2, 1) := by decide +kernel
theorem dL_law_777 : decode cL_law 777 = .ok (.iadd, 1) := by decide +kernel
theorem dL_law_778 : decode cL_law 778 = .ok (.iaload, 1) := by decide +kernel
theorem dL_law_779 : decode cL_law 779 = .ok (.invokevirtual 97, 3) := by decide +kernel
theorem dL_law_782 : decode cL_law 782 = .ok (.aload_n 2, 1) := by decide +kernel
theorem dL_law_783 : decode cL_law 783 = .ok (.aload_n 0, 1) := by decide +kernel
theorem dL_law_784 : decode cL_law 784 = .ok (.iload_n 3, 1) := by decide +kernel
theorem dL_law_785 : decode cL_law 785 = .ok (.iconst 1, 1) := by decide +kernel
theorem dL_law_786 : decode cL_law 786 = .ok (.iadd, 1) := by decide +kernel
theorem dL_law_787 : decode cL_law 787 = .ok (.iaload, 1) := by decide +kernel
theorem dL_law_788 : decode cL_law 788 = .ok (.aload_n 0, 1) := by decide +kernel
theorem dL_law_789 : decode cL_law 789 = .ok (.iload_n 3, 1) := by decide +kernel
theorem dL_law_790 : decode cL_law 790 = .ok (.iconst 2, 1) := by decide +kernel
theorem dL_law_791 : decode cL_law 791 = .ok (.iadd, 1) := by decide +kernel
theorem dL_law_792 : decode cL_law 792 = .ok (.iaload, 1) := by decide +kernel
theorem dL_law_793 : decode cL_law 793 = .ok (.invokevirtual 100, 3) := by decide +kernel
theorem dL_law_796 : decode cL_law 796 = .ok (.lcmp, 1) := by decide +kernel
theorem dL_law_797 : decode cL_law 797 = .ok (.ifCond .eq 391, 3) := by decide +kernel
theorem dL_law_800 : decode cL_law 800 = .ok (.iconst 0, 1) := by decide +kernel
theorem dL_law_801 : decode cL_law 801 = .ok (.ireturn, 1) := by decide +kernel
theorem dL_law_802 : decode cL_law 802 = .ok (.aload_n 1, 1) := by decide +kernel
theorem dL_law_803 : decode cL_law 803 = .ok (.aload_n 0, 1) := by decide +kernel
theorem dL_law_804 : decode cL_law 804 = .ok (.iload_n 3, 1) := by decide +kernel
theorem dL_law_805 : decode cL_law 805 = .ok (.iconst 1, 1) := by decide +kernel
theorem dL_law_806 : decode cL_law 806 = .ok (.iadd, 1) := by decide +kernel
theorem dL_law_807 : decode cL_law 807 = .ok (.iaload, 1) := by decide +kernel
theorem dL_law_808 : decode cL_law 808 = .ok (.aload_n 0, 1) := by decide +kernel
theorem dL_law_809 : decode cL_law 809 = .ok (.iload_n 3, 1) := by decide +kernel
theorem dL_law_810 : decode cL_law 810 = .ok (.iconst 2, 1) := by decide +kernel
theorem dL_law_811 : decode cL_law 811 = .ok (.iadd, 1) := by decide +kernel
theorem dL_law_812 : decode cL_law 812 = .ok (.iaload, 1) := by decide +kernel
theorem dL_law_813 : decode cL_law 813 = .ok (.invokevirtual 101, 3) := by decide +kernel
theorem dL_law_816 : decode cL_law 816 = .ok (.aload_n 2, 1) := by decide +kernel
theorem dL_law_817 : decode cL_law 817 = .ok (.aload_n 0, 1) := by decide +kernel
theorem dL_law_818 : decode cL_law 818 = .ok (.iload_n 3, 1) := by decide +kernel
theorem dL_law_819 : decode cL_law 819 = .ok (.iconst 1, 1) := by decide +kernel
theorem dL_law_820 : decode cL_law 820 = .ok (.iadd, 1) := by decide +kernel
theorem dL_law_821 : decode cL_law 821 = .ok (.iaload, 1) := by decide +kernel
theorem dL_law_822 : decode cL_law 822 = .ok (.aload_n 0, 1) := by decide +kernel
theorem dL_law_823 : decode cL_law 823 = .ok (.iload_n 3, 1) := by decide +kernel
theorem dL_law_824 : decode cL_law 824 = .ok (.iconst 2, 1) := by decide +kernel
theorem dL_law_825 : decode cL_law 825 = .ok (.iadd, 1) := by decide +kernel
theorem dL_law_826 : decode cL_law 826 = .ok (.iaload, 1) := by decide +kernel
theorem dL_law_827 : decode cL_law 827 = .ok (.invokevirtual 104, 3) := by decide +kernel
theorem dL_law_830 : decode cL_law 830 = .ok (.lcmp, 1) := by decide +kernel
theorem dL_law_831 : decode cL_law 831 = .ok (.ifCond .eq 357, 3) := by decide +kernel
theorem dL_law_834 : decode cL_law 834 = .ok (.iconst 0, 1) := by decide +kernel
theorem dL_law_835 : decode cL_law 835 = .ok (.ireturn, 1) := by decide +kernel
theorem dL_law_836 : decode cL_law 836 = .ok (.aload_n 1, 1) := by decide +kernel
theorem dL_law_837 : decode cL_law 837 = .ok (.aload_n 0, 1) := by decide +kernel
theorem dL_law_838 : decode cL_law 838 = .ok (.iload_n 3, 1) := by decide +kernel
theorem dL_law_839 : decode cL_law 839 = .ok (.iconst 1, 1) := by decide +kernel
theorem dL_law_840 : decode cL_law 840 = .ok (.iadd, 1) := by decide +kernel
theorem dL_law_841 : decode cL_law 841 = .ok (.iaload, 1) := by decide +kernel
theorem dL_law_842 : decode cL_law 842 = .ok (.aload_n 0, 1) := by decide +kernel
theorem dL_law_843 : decode cL_law 843 = .ok (.iload_n 3, 1) := by decide +kernel
theorem dL_law_844 : decode cL_law 844 = .ok (.iconst 2, 1) := by decide +kernel
theorem dL_law_845 : decode cL_law 845 = .ok (.iadd, 1) := by decide +kernel
theorem dL_law_846 : decode cL_law 846 = .ok (.iaload, 1) := by decide +kernel
theorem dL_law_847 : decode cL_law 847 = .ok (.aload_n 0, 1) := by decide +kernel
theorem dL_law_848 : decode cL_law 848 = .ok (.iload_n 3, 1) := by decide +kernel
theorem dL_law_849 : decode cL_law 849 = .ok (.iconst 3, 1) := by decide +kernel
theorem dL_law_850 : decode cL_law 850 = .ok (.iadd, 1) := by decide +kernel
theorem dL_law_851 : decode cL_law 851 = .ok (.iaload, 1) := by decide +kernel
theorem dL_law_852 : decode cL_law 852 = .ok (.invokevirtual 105, 3) := by decide +kernel
theorem dL_law_855 : decode cL_law 855 = .ok (.aload_n 2, 1) := by decide +kernel
theorem dL_law_856 : decode cL_law 856 = .ok (.aload_n 0, 1) := by decide +kernel
theorem dL_law_857 : decode cL_law 857 = .ok (.iload_n 3, 1) := by decide +kernel
theorem dL_law_858 : decode cL_law 858 = .ok (.iconst 1, 1) := by decide +kernel
theorem dL_law_859 : decode cL_law 859 = .ok (.iadd, 1) := by decide +kernel
theorem dL_law_860 : decode cL_law 860 = .ok (.iaload, 1) := by decide +kernel
theorem dL_law_861 : decode cL_law 861 = .ok (.aload_n 0, 1) := by decide +kernel
theorem dL_law_862 : decode cL_law 862 = .ok (.iload_n 3, 1) := by decide +kernel
theorem dL_law_863 : decode cL_law 863 = .ok (.iconst 2, 1) := by decide +kernel
theorem dL_law_864 : decode cL_law 864 = .ok (.iadd, 1) := by decide +kernel
theorem dL_law_865 : decode cL_law 865 = .ok (.iaload, 1) := by decide +kernel
theorem dL_law_866 : decode cL_law 866 = .ok (.aload_n 0, 1) := by decide +kernel
theorem dL_law_867 : decode cL_law 867 = .ok (.iload_n 3, 1) := by decide +kernel
theorem dL_law_868 : decode cL_law 868 = .ok (.iconst 3, 1) := by decide +kernel
theorem dL_law_869 : decode cL_law 869 = .ok (.iadd, 1) := by decide +kernel
theorem dL_law_870 : decode cL_law 870 = .ok (.iaload, 1) := by decide +kernel
theorem dL_law_871 : decode cL_law 871 = .ok (.invokevirtual 108, 3) := by decide +kernel
theorem dL_law_874 : decode cL_law 874 = .ok (.lcmp, 1) := by decide +kernel
theorem dL_law_875 : decode cL_law 875 = .ok (.ifCond .eq 313, 3) := by decide +kernel
theorem dL_law_878 : decode cL_law 878 = .ok (.iconst 0, 1) := by decide +kernel
theorem dL_law_879 : decode cL_law 879 = .ok (.ireturn, 1) := by decide +kernel
theorem dL_law_880 : decode cL_law 880 = .ok (.aload_n 1, 1) := by decide +kernel
theorem dL_law_881 : decode cL_law 881 = .ok (.aload_n 0, 1) := by decide +kernel
theorem dL_law_882 : decode cL_law 882 = .ok (.iload_n 3, 1) := by decide +kernel
theorem dL_law_883 : decode cL_law 883 = .ok (.iconst 1, 1) := by decide +kernel
theorem dL_law_884 : decode cL_law 884 = .ok (.iadd, 1) := by decide +kernel
theorem dL_law_885 : decode cL_law 885 = .ok (.iaload, 1) := by decide +kernel
theorem dL_law_886 : decode cL_law 886 = .ok (.aload_n 0, 1) := by decide +kernel
theorem dL_law_887 : decode cL_law 887 = .ok (.iload_n 3, 1) := by decide +kernel
theorem dL_law_888 : decode cL_law 888 = .ok (.iconst 2, 1) := by decide +kernel
theorem dL_law_889 : decode cL_law 889 = .ok (.iadd, 1) := by decide +kernel
theorem dL_law_890 : decode cL_law 890 = .ok (.iaload, 1) := by decide +kernel
theorem dL_law_891 : decode cL_law 891 = .ok (.invokevirtual 109, 3) := by decide +kernel
theorem dL_law_894 : decode cL_law 894 = .ok (.aload_n 2, 1) := by decide +kernel
theorem dL_law_895 : decode cL_law 895 = .ok (.aload_n 0, 1) := by decide +kernel
theorem dL_law_896 : decode cL_law 896 = .ok (.iload_n 3, 1) := by decide +kernel
theorem dL_law_897 : decode cL_law 897 = .ok (.iconst 1, 1) := by decide +kernel
theorem dL_law_898 : decode cL_law 898 = .ok (.iadd, 1) := by decide +kernel
theorem dL_law_899 : decode cL_law 899 = .ok (.iaload, 1) := by decide +kernel
theorem dL_law_900 : decode cL_law 900 = .ok (.aload_n 0, 1) := by decide +kernel
theorem dL_law_901 : decode cL_law 901 = .ok (.iload_n 3, 1) := by decide +kernel
theorem dL_law_902 : decode cL_law 902 = .ok (.iconst 2, 1) := by decide +kernel
theorem dL_law_903 : decode cL_law 903 = .ok (.iadd, 1) := by decide +kernel
theorem dL_law_904 : decode cL_law 904 = .ok (.iaload, 1) := by decide +kernel
theorem dL_law_905 : decode cL_law 905 = .ok (.invokevirtual 112, 3) := by decide +kernel
theorem dL_law_908 : decode cL_law 908 = .ok (.lcmp, 1) := by decide +kernel
theorem dL_law_909 : decode cL_law 909 = .ok (.ifCond .eq 279, 3) := by decide +kernel
theorem dL_law_912 : decode cL_law 912 = .ok (.iconst 0, 1) := by decide +kernel
theorem dL_law_913 : decode cL_law 913 = .ok (.ireturn, 1) := by decide +kernel
theorem dL_law_914 : decode cL_law 914 = .ok (.aload_n 1, 1) := by decide +kernel
theorem dL_law_915 : decode cL_law 915 = .ok (.aload_n 0, 1) := by decide +kernel
theorem dL_law_916 : decode cL_law 916 = .ok (.iload_n 3, 1) := by decide +kernel
theorem dL_law_917 : decode cL_law 917 = .ok (.iconst 1, 1) := by decide +kernel
theorem dL_law_918 : decode cL_law 918 = .ok (.iadd, 1) := by decide +kernel
theorem dL_law_919 : decode cL_law 919 = .ok (.iaload, 1) := by decide +kernel
theorem dL_law_920 : decode cL_law 920 = .ok (.invokevirtual 113, 3) := by decide +kernel
theorem dL_law_923 : decode cL_law 923 = .ok (.aload_n 2, 1) := by decide +kernel
theorem dL_law_924 : decode cL_law 924 = .ok (.aload_n 0, 1) := by decide +kernel
theorem dL_law_925 : decode cL_law 925 = .ok (.iload_n 3, 1) := by decide +kernel
theorem dL_law_926 : decode cL_law 926 = .ok (.iconst 1, 1) := by decide +kernel
theorem dL_law_927 : decode cL_law 927 = .ok (.iadd, 1) := by decide +kernel
theorem dL_law_928 : decode cL_law 928 = .ok (.iaload, 1) := by decide +kernel
theorem dL_law_929 : decode cL_law 929 = .ok (.invokevirtual 116, 3) := by decide +kernel
theorem dL_law_932 : decode cL_law 932 = .ok (.if_icmp .eq 256, 3) := by decide +kernel
theorem dL_law_935 : decode cL_law 935 = .ok (.iconst 0, 1) := by decide +kernel
theorem dL_law_936 : decode cL_law 936 = .ok (.ireturn, 1) := by decide +kernel
theorem dL_law_937 : decode cL_law 937 = .ok (.aload_n 1, 1) := by decide +kernel
theorem dL_law_938 : decode cL_law 938 = .ok (.aload_n 0, 1) := by decide +kernel
theorem dL_law_939 : decode cL_law 939 = .ok (.iload_n 3, 1) := by decide +kernel
theorem dL_law_940 : decode cL_law 940 = .ok (.iconst 1, 1) := by decide +kernel
theorem dL_law_941 : decode cL_law 941 = .ok (.iadd, 1) := by decide +kernel
theorem dL_law_942 : decode cL_law 942 = .ok (.iaload, 1) := by decide +kernel
theorem dL_law_943 : decode cL_law 943 = .ok (.invokevirtual 117, 3) := by decide +kernel
theorem dL_law_946 : decode cL_law 946 = .ok (.aload_n 2, 1) := by decide +kernel
theorem dL_law_947 : decode cL_law 947 = .ok (.aload_n 0, 1) := by decide +kernel
theorem dL_law_948 : decode cL_law 948 = .ok (.iload_n 3, 1) := by decide +kernel
theorem dL_law_949 : decode cL_law 949 = .ok (.iconst 1, 1) := by decide +kernel
theorem dL_law_950 : decode cL_law 950 = .ok (.iadd, 1) := by decide +kernel
theorem dL_law_951 : decode cL_law 951 = .ok (.iaload, 1) := by decide +kernel
theorem dL_law_952 : decode cL_law 952 = .ok (.invokevirtual 121, 3) := by decide +kernel
theorem dL_law_955 : decode cL_law 955 = .ok (.lcmp, 1) := by decide +kernel
theorem dL_law_956 : decode cL_law 956 = .ok (.ifCond .eq 232, 3) := by decide +kernel
theorem dL_law_959 : decode cL_law 959 = .ok (.iconst 0, 1) := by decide +kernel
theorem dL_law_960 : decode cL_law 960 = .ok (.ireturn, 1) := by decide +kernel
theorem dL_law_961 : decode cL_law 961 = .ok (.aload_n 1, 1) := by decide +kernel
theorem dL_law_962 : decode cL_law 962 = .ok (.aload_n 0, 1) := by decide +kernel
theorem dL_law_963 : decode cL_law 963 = .ok (.iload_n 3, 1) := by decide +kernel
theorem dL_law_964 : decode cL_law 964 = .ok (.iconst 1, 1) := by decide +kernel
theorem dL_law_965 : decode cL_law 965 = .ok (.iadd, 1) := by decide +kernel
theorem dL_law_966 : decode cL_law 966 = .ok (.iaload, 1) := by decide +kernel
theorem dL_law_967 : decode cL_law 967 = .ok (.aload_n 0, 1) := by decide +kernel
theorem dL_law_968 : decode cL_law 968 = .ok (.iload_n 3, 1) := by decide +kernel
theorem dL_law_969 : decode cL_law 969 = .ok (.iconst 2, 1) := by decide +kernel
theorem dL_law_970 : decode cL_law 970 = .ok (.iadd, 1) := by decide +kernel
theorem dL_law_971 : decode cL_law 971 = .ok (.iaload, 1) := by decide +kernel
theorem dL_law_972 : decode cL_law 972 = .ok (.invokevirtual 122, 3) := by decide +kernel
theorem dL_law_975 : decode cL_law 975 = .ok (.aload_n 2, 1) := by decide +kernel
theorem dL_law_976 : decode cL_law 976 = .ok (.aload_n 0, 1) := by decide +kernel
theorem dL_law_977 : decode cL_law 977 = .ok (.iload_n 3, 1) := by decide +kernel
theorem dL_law_978 : decode cL_law 978 = .ok (.iconst 1, 1) := by decide +kernel
theorem dL_law_979 : decode cL_law 979 = .ok (.iadd, 1) := by decide +kernel
theorem dL_law_980 : decode cL_law 980 = .ok (.iaload, 1) := by decide +kernel
theorem dL_law_981 : decode cL_law 981 = .ok (.aload_n 0, 1) := by decide +kernel
theorem dL_law_982 : decode cL_law 982 = .ok (.iload_n 3, 1) := by decide +kernel
theorem dL_law_983 : decode cL_law 983 = .ok (.iconst 2, 1) := by decide +kernel
theorem dL_law_984 : decode cL_law 984 = .ok (.iadd, 1) := by decide +kernel
theorem dL_law_985 : decode cL_law 985 = .ok (.iaload, 1) := by decide +kernel
theorem dL_law_986 : decode cL_law 986 = .ok (.invokevirtual 125, 3) := by decide +kernel
theorem dL_law_989 : decode cL_law 989 = .ok (.if_icmp .eq 199, 3) := by decide +kernel
theorem dL_law_992 : decode cL_law 992 = .ok (.iconst 0, 1) := by decide +kernel
theorem dL_law_993 : decode cL_law 993 = .ok (.ireturn, 1) := by decide +kernel
theorem dL_law_994 : decode cL_law 994 = .ok (.aload_n 1, 1) := by decide +kernel
theorem dL_law_995 : decode cL_law 995 = .ok (.aload_n 0, 1) := by decide +kernel
theorem dL_law_996 : decode cL_law 996 = .ok (.iload_n 3, 1) := by decide +kernel
theorem dL_law_997 : decode cL_law 997 = .ok (.iconst 1, 1) := by decide +kernel
theorem dL_law_998 : decode cL_law 998 = .ok (.iadd, 1) := by decide +kernel
theorem dL_law_999 : decode cL_law 999 = .ok (.iaload, 1) := by decide +kernel
theorem dL_law_1000 : decode cL_law 1000 = .ok (.aload_n 0, 1) := by decide +kernel
theorem dL_law_1001 : decode cL_law 1001 = .ok (.iload_n 3, 1) := by decide +kernel
theorem dL_law_1002 : decode cL_law 1002 = .ok (.iconst 2, 1) := by decide +kernel
theorem dL_law_1003 : decode cL_law 1003 = .ok (.iadd, 1) := by decide +kernel
theorem dL_law_1004 : decode cL_law 1004 = .ok (.iaload, 1) := by decide +kernel
theorem dL_law_1005 : decode cL_law 1005 = .ok (.invokevirtual 126, 3) := by decide +kernel
theorem dL_law_1008 : decode cL_law 1008 = .ok (.aload_n 2, 1) := by decide +kernel
theorem dL_law_1009 : decode cL_law 1009 = .ok (.aload_n 0, 1) := by decide +kernel
theorem dL_law_1010 : decode cL_law 1010 = .ok (.iload_n 3, 1) := by decide +kernel
theorem dL_law_1011 : decode cL_law 1011 = .ok (.iconst 1, 1) := by decide +kernel
theorem dL_law_1012 : decode cL_law 1012 = .ok (.iadd, 1) := by decide +kernel
theorem dL_law_1013 : decode cL_law 1013 = .ok (.iaload, 1) := by decide +kernel
theorem dL_law_1014 : decode cL_law 1014 = .ok (.aload_n 0, 1) := by decide +kernel
theorem dL_law_1015 : decode cL_law 1015 = .ok (.iload_n 3, 1) := by decide +kernel
theorem dL_law_1016 : decode cL_law 1016 = .ok (.iconst 2, 1) := by decide +kernel
theorem dL_law_1017 : decode cL_law 1017 = .ok (.iadd, 1) := by decide +kernel
theorem dL_law_1018 : decode cL_law 1018 = .ok (.iaload, 1) := by decide +kernel
theorem dL_law_1019 : decode cL_law 1019 = .ok (.invokevirtual 129, 3) := by decide +kernel
theorem dL_law_1022 : decode cL_law 1022 = .ok (.if_icmp .eq 166, 3) := by decide +kernel
theorem dL_law_1025 : decode cL_law 1025 = .ok (.iconst 0, 1) := by decide +kernel
theorem dL_law_1026 : decode cL_law 1026 = .ok (.ireturn, 1) := by decide +kernel
theorem dL_law_1027 : decode cL_law 1027 = .ok (.aload_n 1, 1) := by decide +kernel
theorem dL_law_1028 : decode cL_law 1028 = .ok (.invokevirtual 130, 3) := by decide +kernel
theorem dL_law_1031 : decode cL_law 1031 = .ok (.aload_n 2, 1) := by decide +kernel
theorem dL_law_1032 : decode cL_law 1032 = .ok (.invokevirtual 133, 3) := by decide +kernel
theorem dL_law_1035 : decode cL_law 1035 = .ok (.if_icmp .eq 153, 3) := by decide +kernel
theorem dL_law_1038 : decode cL_law 1038 = .ok (.iconst 0, 1) := by decide +kernel
theorem dL_law_1039 : decode cL_law 1039 = .ok (.ireturn, 1) := by decide +kernel
theorem dL_law_1040 : decode cL_law 1040 = .ok (.aload_n 1, 1) := by decide +kernel
theorem dL_law_1041 : decode cL_law 1041 = .ok (.aload_n 0, 1) := by decide +kernel
theorem dL_law_1042 : decode cL_law 1042 = .ok (.iload_n 3, 1) := by decide +kernel
theorem dL_law_1043 : decode cL_law 1043 = .ok (.iconst 1, 1) := by decide +kernel
theorem dL_law_1044 : decode cL_law 1044 = .ok (.iadd, 1) := by decide +kernel
theorem dL_law_1045 : decode cL_law 1045 = .ok (.iaload, 1) := by decide +kernel
theorem dL_law_1046 : decode cL_law 1046 = .ok (.aload_n 0, 1) := by decide +kernel
theorem dL_law_1047 : decode cL_law 1047 = .ok (.iload_n 3, 1) := by decide +kernel
theorem dL_law_1048 : decode cL_law 1048 = .ok (.iconst 2, 1) := by decide +kernel
theorem dL_law_1049 : decode cL_law 1049 = .ok (.iadd, 1) := by decide +kernel
theorem dL_law_1050 : decode cL_law 1050 = .ok (.iaload, 1) := by decide +kernel
theorem dL_law_1051 : decode cL_law 1051 = .ok (.aload_n 0, 1) := by decide +kernel
theorem dL_law_1052 : decode cL_law 1052 = .ok (.iload_n 3, 1) := by decide +kernel
theorem dL_law_1053 : decode cL_law 1053 = .ok (.iconst 3, 1) := by decide +kernel
theorem dL_law_1054 : decode cL_law 1054 = .ok (.iadd, 1) := by decide +kernel
theorem dL_law_1055 : decode cL_law 1055 = .ok (.iaload, 1) := by decide +kernel
theorem dL_law_1056 : decode cL_law 1056 = .ok (.invokevirtual 134, 3) := by decide +kernel
theorem dL_law_1059 : decode cL_law 1059 = .ok (.aload_n 2, 1) := by decide +kernel
theorem dL_law_1060 : decode cL_law 1060 = .ok (.aload_n 0, 1) := by decide +kernel
theorem dL_law_1061 : decode cL_law 1061 = .ok (.iload_n 3, 1) := by decide +kernel
theorem dL_law_1062 : decode cL_law 1062 = .ok (.iconst 1, 1) := by decide +kernel
theorem dL_law_1063 : decode cL_law 1063 = .ok (.iadd, 1) := by decide +kernel
theorem dL_law_1064 : decode cL_law 1064 = .ok (.iaload, 1) := by decide +kernel
theorem dL_law_1065 : decode cL_law 1065 = .ok (.aload_n 0, 1) := by decide +kernel
theorem dL_law_1066 : decode cL_law 1066 = .ok (.iload_n 3, 1) := by decide +kernel
theorem dL_law_1067 : decode cL_law 1067 = .ok (.iconst 2, 1) := by decide +kernel
theorem dL_law_1068 : decode cL_law 1068 = .ok (.iadd, 1) := by decide +kernel
theorem dL_law_1069 : decode cL_law 1069 = .ok (.iaload, 1) := by decide +kernel
theorem dL_law_1070 : decode cL_law 1070 = .ok (.aload_n 0, 1) := by decide +kernel
theorem dL_law_1071 : decode cL_law 1071 = .ok (.iload_n 3, 1) := by decide +kernel
theorem dL_law_1072 : decode cL_law 1072 = .ok (.iconst 3, 1) := by decide +kernel
theorem dL_law_1073 : decode cL_law 1073 = .ok (.iadd, 1) := by decide +kernel
theorem dL_law_1074 : decode cL_law 1074 = .ok (.iaload, 1) := by decide +kernel
theorem dL_law_1075 : decode cL_law 1075 = .ok (.invokevirtual 137, 3) := by decide +kernel
theorem dL_law_1078 : decode cL_law 1078 = .ok (.if_icmp .eq 110, 3) := by decide +kernel
theorem dL_law_1081 : decode cL_law 1081 = .ok (.iconst 0, 1) := by decide +kernel
theorem dL_law_1082 : decode cL_law 1082 = .ok (.ireturn, 1) := by decide +kernel
theorem dL_law_1083 : decode cL_law 1083 = .ok (.aload_n 1, 1) := by decide +kernel
theorem dL_law_1084 : decode cL_law 1084 = .ok (.aload_n 0, 1) := by decide +kernel
theorem dL_law_1085 : decode cL_law 1085 = .ok (.iload_n 3, 1) := by decide +kernel
theorem dL_law_1086 : decode cL_law 1086 = .ok (.iconst 1, 1) := by decide +kernel
theorem dL_law_1087 : decode cL_law 1087 = .ok (.iadd, 1) := by decide +kernel
theorem dL_law_1088 : decode cL_law 1088 = .ok (.iaload, 1) := by decide +kernel
theorem dL_law_1089 : decode cL_law 1089 = .ok (.invokevirtual 138, 3) := by decide +kernel
theorem dL_law_1092 : decode cL_law 1092 = .ok (.aload_n 2, 1) := by decide +kernel
theorem dL_law_1093 : decode cL_law 1093 = .ok (.aload_n 0, 1) := by decide +kernel
theorem dL_law_1094 : decode cL_law 1094 = .ok (.iload_n 3, 1) := by decide +kernel
theorem dL_law_1095 : decode cL_law 1095 = .ok (.iconst 1, 1) := by decide +kernel
theorem dL_law_1096 : decode cL_law 1096 = .ok (.iadd, 1) := by decide +kernel
theorem dL_law_1097 : decode cL_law 1097 = .ok (.iaload, 1) := by decide +kernel
theorem dL_law_1098 : decode cL_law 1098 = .ok (.invokevirtual 141, 3) := by decide +kernel
theorem dL_law_1101 : decode cL_law 1101 = .ok (.if_icmp .eq 87, 3) := by decide +kernel
theorem dL_law_1104 : decode cL_law 1104 = .ok (.iconst 0, 1) := by decide +kernel
theorem dL_law_1105 : decode cL_law 1105 = .ok (.ireturn, 1) := by decide +kernel
theorem dL_law_1106 : decode cL_law 1106 = .ok (.aload_n 1, 1) := by decide +kernel
theorem dL_law_1107 : decode cL_law 1107 = .ok (.aload_n 0, 1) := by decide +kernel
theorem dL_law_1108 : decode cL_law 1108 = .ok (.iload_n 3, 1) := by decide +kernel
theorem dL_law_1109 : decode cL_law 1109 = .ok (.iconst 1, 1) := by decide +kernel
theorem dL_law_1110 : decode cL_law 1110 = .ok (.iadd, 1) := by decide +kernel
theorem dL_law_1111 : decode cL_law 1111 = .ok (.iaload, 1) := by decide +kernel
theorem dL_law_1112 : decode cL_law 1112 = .ok (.aload_n 0, 1) := by decide +kernel
theorem dL_law_1113 : decode cL_law 1113 = .ok (.iload_n 3, 1) := by decide +kernel
theorem dL_law_1114 : decode cL_law 1114 = .ok (.iconst 2, 1) := by decide +kernel
theorem dL_law_1115 : decode cL_law 1115 = .ok (.iadd, 1) := by decide +kernel
theorem dL_law_1116 : decode cL_law 1116 = .ok (.iaload, 1) := by decide +kernel
theorem dL_law_1117 : decode cL_law 1117 = .ok (.invokevirtual 142, 3) := by decide +kernel
theorem dL_law_1120 : decode cL_law 1120 = .ok (.aload_n 2, 1) := by decide +kernel
theorem dL_law_1121 : decode cL_law 1121 = .ok (.aload_n 0, 1) := by decide +kernel
theorem dL_law_1122 : decode cL_law 1122 = .ok (.iload_n 3, 1) := by decide +kernel
theorem dL_law_1123 : decode cL_law 1123 = .ok (.iconst 1, 1) := by decide +kernel
theorem dL_law_1124 : decode cL_law 1124 = .ok (.iadd, 1) := by decide +kernel
theorem dL_law_1125 : decode cL_law 1125 = .ok (.iaload, 1) := by decide +kernel
theorem dL_law_1126 : decode cL_law 1126 = .ok (.aload_n 0, 1) := by decide +kernel
theorem dL_law_1127 : decode cL_law 1127 = .ok (.iload_n 3, 1) := by decide +kernel
theorem dL_law_1128 : decode cL_law 1128 = .ok (.iconst 2, 1) := by decide +kernel
theorem dL_law_1129 : decode cL_law 1129 = .ok (.iadd, 1) := by decide +kernel
theorem dL_law_1130 : decode cL_law 1130 = .ok (.iaload, 1) := by decide +kernel
theorem dL_law_1131 : decode cL_law 1131 = .ok (.invokevirtual 145, 3) := by decide +kernel
theorem dL_law_1134 : decode cL_law 1134 = .ok (.if_icmp .eq 54, 3) := by decide +kernel
theorem dL_law_1137 : decode cL_law 1137 = .ok (.iconst 0, 1) := by decide +kernel
theorem dL_law_1138 : decode cL_law 1138 = .ok (.ireturn, 1) := by decide +kernel
theorem dL_law_1139 : decode cL_law 1139 = .ok (.aload_n 1, 1) := by decide +kernel
theorem dL_law_1140 : decode cL_law 1140 = .ok (.invokevirtual 146, 3) := by decide +kernel
theorem dL_law_1143 : decode cL_law 1143 = .ok (.aload_n 2, 1) := by decide +kernel
theorem dL_law_1144 : decode cL_law 1144 = .ok (.invokevirtual 149, 3) := by decide +kernel
theorem dL_law_1147 : decode cL_law 1147 = .ok (.if_icmp .eq 41, 3) := by decide +kernel
theorem dL_law_1150 : decode cL_law 1150 = .ok (.iconst 0, 1) := by decide +kernel
theorem dL_law_1151 : decode cL_law 1151 = .ok (.ireturn, 1) := by decide +kernel
theorem dL_law_1152 : decode cL_law 1152 = .ok (.aload_n 1, 1) := by decide +kernel
theorem dL_law_1153 : decode cL_law 1153 = .ok (.invokevirtual 150, 3) := by decide +kernel
theorem dL_law_1156 : decode cL_law 1156 = .ok (.aload_n 2, 1) := by decide +kernel
theorem dL_law_1157 : decode cL_law 1157 = .ok (.invokevirtual 153, 3) := by decide +kernel
theorem dL_law_1160 : decode cL_law 1160 = .ok (.if_icmp .eq 28, 3) := by decide +kernel
theorem dL_law_1163 : decode cL_law 1163 = .ok (.iconst 0, 1) := by decide +kernel
theorem dL_law_1164 : decode cL_law 1164 = .ok (.ireturn, 1) := by decide +kernel
theorem dL_law_1165 : decode cL_law 1165 = .ok (.aload_n 1, 1) := by decide +kernel
theorem dL_law_1166 : decode cL_law 1166 = .ok (.aload_n 0, 1) := by decide +kernel
theorem dL_law_1167 : decode cL_law 1167 = .ok (.iload_n 3, 1) := by decide +kernel
theorem dL_law_1168 : decode cL_law 1168 = .ok (.iconst 1, 1) := by decide +kernel
theorem dL_law_1169 : decode cL_law 1169 = .ok (.iadd, 1) := by decide +kernel
theorem dL_law_1170 : decode cL_law 1170 = .ok (.iaload, 1) := by decide +kernel
theorem dL_law_1171 : decode cL_law 1171 = .ok (.invokevirtual 154, 3) := by decide +kernel
theorem dL_law_1174 : decode cL_law 1174 = .ok (.aload_n 2, 1) := by decide +kernel
theorem dL_law_1175 : decode cL_law 1175 = .ok (.aload_n 0, 1) := by decide +kernel
theorem dL_law_1176 : decode cL_law 1176 = .ok (.iload_n 3, 1) := by decide +kernel
theorem dL_law_1177 : decode cL_law 1177 = .ok (.iconst 1, 1) := by decide +kernel
theorem dL_law_1178 : decode cL_law 1178 = .ok (.iadd, 1) := by decide +kernel
theorem dL_law_1179 : decode cL_law 1179 = .ok (.iaload, 1) := by decide +kernel
theorem dL_law_1180 : decode cL_law 1180 = .ok (.invokevirtual 157, 3) := by decide +kernel
theorem dL_law_1183 : decode cL_law 1183 = .ok (.if_icmp .eq 5, 3) := by decide +kernel
theorem dL_law_1186 : decode cL_law 1186 = .ok (.iconst 0, 1) := by decide +kernel
theorem dL_law_1187 : decode cL_law 1187 = .ok (.ireturn, 1) := by decide +kernel
theorem dL_law_1188 : decode cL_law 1188 = .ok (.iinc 3 5, 3) := by decide +kernel
theorem dL_law_1191 : decode cL_law 1191 = .ok (.goto (-1173), 3) := by decide +kernel
theorem dL_law_1194 : decode cL_law 1194 = .ok (.iconst 1, 1) := by decide +kernel
theorem dL_law_1195 : decode cL_law 1195 = .ok (.ireturn, 1) := by decide +kernel
end
section
/-! The layer over the kit. An abstract heap: how many cells, their kinds and lengths, ints, longs, references (by number).
Cell k of the abstract heap lies at the address o + k, where o is the heap's size at the law's start. -/
abbrev AH : Type := Nat × (Nat → Nat × Nat) × (Nat → Nat → Int32) × (Nat → Nat → Int64) × (Nat → Nat → Option Nat)
def hN (α : AH) : Nat := α.1
def hS (α : AH) : Nat → Nat × Nat := α.2.1
def hI (α : AH) : Nat → Nat → Int32 := α.2.2.1
def hJ (α : AH) : Nat → Nat → Int64 := α.2.2.2.1
def hP (α : AH) : Nat → Nat → Option Nat := α.2.2.2.2
def u1 {β : Type} (f : Nat → β) (a : Nat) (x : β) : Nat → β := fun b => if b = a then x else f b
def u2 {β : Type} (f : Nat → Nat → β) (a k : Nat) (x : β) : Nat → Nat → β := u1 f a (u1 (f a) k x)
def sI (α : AH) (a k : Nat) (x : Int32) : AH := (α.1, α.2.1, u2 α.2.2.1 a k x, α.2.2.2.1, α.2.2.2.2)
def sJ (α : AH) (a k : Nat) (x : Int64) : AH := (α.1, α.2.1, α.2.2.1, u2 α.2.2.2.1 a k x, α.2.2.2.2)
def sP (α : AH) (a k : Nat) (x : Option Nat) : AH := (α.1, α.2.1, α.2.2.1, α.2.2.2.1, u2 α.2.2.2.2 a k x)
/-- a whole row of ints -/
def sIr (α : AH) (a : Nat) (f : Nat → Int32) : AH := (α.1, α.2.1, u1 α.2.2.1 a f, α.2.2.2.1, α.2.2.2.2)
/-- a new cell -/
def nw (α : AH) (sh : Nat × Nat) (f : Nat → Int32) : AH := (α.1 + 1, u1 α.2.1 α.1 sh, u1 α.2.2.1 α.1 f, u1 α.2.2.2.1 α.1 (fun _ => 0), u1 α.2.2.2.2 α.1 (fun _ => none))
theorem u1_s {β : Type} (f : Nat → β) (a : Nat) (x : β) : u1 f a x a = x := if_pos rfl
theorem u1_n {β : Type} {f : Nat → β} {a b : Nat} {x : β} (h : b ≠ a) : u1 f a x b = f b := if_neg h
def zTy : Nat → Nat → FieldType := fun c => match c with
  | 0 => tyX0
  | 1 => tyX1
  | 2 => tyX2
  | 3 => tyX3
  | 4 => tyX4
  | 5 => tyX5
  | 6 => tyX6
  | 7 => tyX7
  | 8 => tyX8
  | 9 => tyX9
  | 10 => tyX10
  | 11 => tyX11
  | _ => tyX12
def zfk (t : FieldType) : Nat := match t with
  | .long => 1
  | .object _ => 2
  | .array _ => 2
  | _ => 0
def znf : Nat → Nat := fun c => match c with
  | 0 => 10
  | 1 => 3
  | 2 => 3
  | 3 => 3
  | 4 => 10
  | 5 => 12
  | 6 => 3
  | 7 => 4
  | 8 => 5
  | 9 => 3
  | 10 => 3
  | 11 => 7
  | _ => 33
def zrf (o : Nat) (r : Option Nat) : Value := va_rf (r.map (fun i => o + i))
/-- the value of field j (of a type) of cell k -/
def zfv (o : Nat) (t : FieldType) (α : AH) (k j : Nat) : Value := match zfk t with
  | 0 => .int (hI α k j)
  | 1 => .long (hJ α k j)
  | _ => zrf o (hP α k j)
/-- cell k lies in the heap; kinds: 0 int[], 1 long[], 2 boolean[], 3 Worker[], c + 4 an object of the class c of vwCl -/
def zAt (o : Nat) (D : va_G) (dA : Nat → ClassId) (α : AH) (k : Nat) (H : Heap) : Prop := match (hS α k).1 with
  | 0 => H[o + k]? = some (arrV (dA 0) (hS α k).2 (fun j => .int (hI α k j)))
  | 1 => H[o + k]? = some (arrV (dA 1) (hS α k).2 (fun j => .long (hJ α k j)))
  | 2 => H[o + k]? = some (arrV (dA 2) (hS α k).2 (fun j => .int (hI α k j)))
  | 3 => H[o + k]? = some (arrV (dA 3) (hS α k).2 (fun j => zrf o (hP α k j)))
  | c + 4 => t_OB (o + k) (D.1 c) (znf c) (D.2 c) H (fun j => zfv o (zTy c j) α k j)
def zR (o : Nat) (D : va_G) (dA : Nat → ClassId) (α : AH) (H : Heap) : Prop := H.size = o + hN α ∧ ∀ k, k < hN α → zAt o D dA α k H
def zIs (α : AH) (k : Nat) (sh : Nat × Nat) : Prop := k < hN α ∧ hS α k = sh
def zA (o : Nat) : Nat → Prop := fun q => o ≤ q
theorem zAt.cg {o : Nat} {D : va_G} {dA : Nat → ClassId} {α β : AH} {k : Nat} {H H1 : Heap} (hs : hS β k = hS α k) (hi : hI β k = hI α k) (hj : hJ β k = hJ α k) (hp : hP β k = hP α k) (hh : H1[o + k]? = H[o + k]?) (h : zAt o D dA α k H) : zAt o D dA β k H1 := by
  unfold zAt at h ⊢
  rw [hs]
  split <;> rename_i e <;> rw [e] at h
  · rw [hh, hi]; exact h
  · rw [hh, hj]; exact h
  · rw [hh, hi]; exact h
  · rw [hh, hp]; exact h
  · refine (t_OB.kept h hh).to (fun j _ => ?_)
    unfold zfv
    rw [hi, hj, hp]
theorem zR.put {o : Nat} {D : va_G} {dA : Nat → ClassId} {α β : AH} {k : Nat} {H H1 : Heap} (h : zR o D dA α H) (hn : hN β = hN α) (hs : ∀ b, b ≠ k → hS β b = hS α b ∧ hI β b = hI α b ∧ hJ β b = hJ α b ∧ hP β b = hP α b) (hz : H1.size = H.size) (ho : ∀ q, q ≠ o + k → H1[q]? = H[q]?) (hat : zAt o D dA β k H1) : zR o D dA β H1 := by
  refine ⟨by rw [hz, h.1, hn], fun b hb => ?_⟩
  by_cases e : b = k
  · rw [e]; exact hat
  · obtain ⟨h1, h2, h3, h4⟩ := hs b e
    exact zAt.cg h1 h2 h3 h4 (ho _ (by omega)) (h.2 b (by rw [← hn]; exact hb))
theorem zR.new {o : Nat} {D : va_G} {dA : Nat → ClassId} {α : AH} {sh : Nat × Nat} {f : Nat → Int32} {H H1 : Heap} (h : zR o D dA α H) (hz : H1.size = H.size + 1) (ho : ∀ q, q < H.size → H1[q]? = H[q]?) (hat : zAt o D dA (nw α sh f) (hN α) H1) : zR o D dA (nw α sh f) H1 := by
  refine ⟨by rw [hz, h.1]; rfl, fun b hb => ?_⟩
  by_cases e : b = hN α
  · rw [e]; exact hat
  · have hb' : b < hN α := by have : b < hN α + 1 := hb; omega
    exact zAt.cg (u1_n e) (u1_n e) (u1_n e) (u1_n e) (ho _ (by rw [h.1]; omega)) (h.2 b hb')
theorem zAt.i {o : Nat} {D : va_G} {dA : Nat → ClassId} {α : AH} {k n : Nat} {H : Heap} (h : zAt o D dA α k H) (hs : hS α k = (0, n)) : H[o + k]? = some (arrV (dA 0) n (fun j => .int (hI α k j))) := by
  unfold zAt at h; rw [hs] at h; exact h
theorem zAt.l {o : Nat} {D : va_G} {dA : Nat → ClassId} {α : AH} {k n : Nat} {H : Heap} (h : zAt o D dA α k H) (hs : hS α k = (1, n)) : H[o + k]? = some (arrV (dA 1) n (fun j => .long (hJ α k j))) := by
  unfold zAt at h; rw [hs] at h; exact h
theorem zAt.z {o : Nat} {D : va_G} {dA : Nat → ClassId} {α : AH} {k n : Nat} {H : Heap} (h : zAt o D dA α k H) (hs : hS α k = (2, n)) : H[o + k]? = some (arrV (dA 2) n (fun j => .int (hI α k j))) := by
  unfold zAt at h; rw [hs] at h; exact h
theorem zAt.q {o : Nat} {D : va_G} {dA : Nat → ClassId} {α : AH} {k n : Nat} {H : Heap} (h : zAt o D dA α k H) (hs : hS α k = (3, n)) : H[o + k]? = some (arrV (dA 3) n (fun j => zrf o (hP α k j))) := by
  unfold zAt at h; rw [hs] at h; exact h
theorem zAt.o {o : Nat} {D : va_G} {dA : Nat → ClassId} {α : AH} {k c n : Nat} {H : Heap} (h : zAt o D dA α k H) (hs : hS α k = (c + 4, n)) : t_OB (o + k) (D.1 c) (znf c) (D.2 c) H (fun j => zfv o (zTy c j) α k j) := by
  unfold zAt at h; rw [hs] at h; exact h
/-- the good words of the tables -/
def zT : List Cond := lw_tbl.filter goodWord
theorem zT_in {w : Cond} (h : w ∈ lw_tbl) (hg : goodWord w = true) : w ∈ zT := List.mem_filter.mpr ⟨h, hg⟩
theorem zT_at (i : Nat) {w : Cond} (h : lw_tbl[i]? = some w) (hg : goodWord w = true) : w ∈ zT := zT_in (List.mem_of_getElem? h) hg
theorem zT_good : ∀ w ∈ zT, (w.onTables && w.keeps) = true ∨ ∃ ty, w = .arrayClass ty := fun _ h => good_of_word (List.mem_filter.mp h).2
/-- what a class must have for its objects' fields to be read and written -/
def zCls (c : Nat) : Prop := ∃ (C : String) (T : u_T) (N : Nat), vwCl[c]? = some (C, T, N) ∧ znf c = N ∧ (∀ w ∈ u_ws C T N, w ∈ zT) ∧ (∀ a, a < N → ∀ b, b < N → a ≠ b → (T a).2.1 ≠ (T b).2.1) ∧ ∀ k, k < N → parseFieldDescriptor (T k).2.2.1 = some (zTy c k)
/-- the pool's entry idx of the class own links field j of the class c -/
def zFld (own : String) (idx c j : Nat) : Prop := ∃ (C : String) (T : u_T) (N : Nat) (ref : String), vwCl[c]? = some (C, T, N) ∧ j < N ∧ Cond.fieldLink own idx ref (T j).2.1 (T j).2.2.1 ∈ zT ∧ (ref = (T j).1 ∨ Cond.sameField ref (T j).1 (T j).2.1 (T j).2.2.1 ∈ zT)
def zFin (own : String) (c j : Nat) (b : Bool) : Prop := ∃ q : vw_C, vwCl[c]? = some q ∧ (q.2.1 j).2.2.2 = b ∧ (b = true → (q.2.1 j).1 = own)
end
section
/-! Globals: the law's first free address; the addresses of arrays and texts that nobody writes. Methods: name, code, locals, answer's type, cells and slots that a call may make. -/
abbrev ZG : Type := Nat × (Nat → Nat)
abbrev ZM : Type := MethodName × ByteArray × Nat × Option FieldType × Nat × Nat
abbrev mY (M : ZM) : MethodName := M.1
abbrev mC (M : ZM) : ByteArray := M.2.1
abbrev mL (M : ZM) : Nat := M.2.2.1
abbrev mR (M : ZM) : Option FieldType := M.2.2.2.1
abbrev mK (M : ZM) : Nat := M.2.2.2.2.1
abbrev mS (M : ZM) : Nat := M.2.2.2.2.2
def zSTEP : List Int32 := [1, 3, 9]
def zUND : List Int32 := [21, 22, 20, 25, 26, 24, 17, 18, 16, 37, 38, 36, 41, 42, 40, 33, 34, 32, 5, 6, 4, 9, 10, 8, 1, 2, 0]
def zPAS : List Int32 := [1, 1, 1, 1, 2, 1, 1, 3, 3, 1, 1, 4, 6, 4, 1, 1, 5, 10, 10, 5, 1, 1, 6, 15, 20, 15, 6, 1, 1, 7, 21, 35, 35, 21, 7, 1, 1, 8, 28, 56, 70, 56, 28, 8, 1, 1, 9, 36, 84, 126, 126, 84, 36, 9, 1, 1, 10, 45, 120, 210, 252, 210, 120, 45, 10, 1, 1, 11, 55, 165, 330, 462, 462, 330, 165, 55, 11, 1, 1, 12, 66, 220, 495, 792, 924, 792, 495, 220, 66, 12, 1, 1, 13, 78, 286, 715, 1287, 1716, 1716, 1287, 715, 286, 78, 13, 1, 1, 14, 91, 364, 1001, 2002, 3003, 3432, 3003, 2002, 1001, 364, 91, 14, 1, 1, 15, 105, 455, 1365, 3003, 5005, 6435, 6435, 5005, 3003, 1365, 455, 105, 15, 1]
/-- the three arrays: name, contents -/
def zArr (i : Nat) : String × List Int32 := match i with
  | 0 => ("STEP", zSTEP)
  | 1 => ("UNDONE", zUND)
  | _ => ("PASCAL", zPAS)
/-- the texts: class, pool entry, text, its signs -/
def zStr (i : Nat) : String × Nat × String × List Int32 := match i with
  | 0 => ("DaysBag$Reader", 102, "pay ", [112, 97, 121, 32])
  | 1 => ("DaysBag$Reader", 108, "012", [48, 49, 50])
  | 2 => ("DaysBag$Reader", 113, "over ", [111, 118, 101, 114, 32])
  | 3 => ("DaysBag$Reader", 115, "an ", [97, 110, 32])
  | 4 => ("DaysBag$Reader", 134, "sglrd", [115, 103, 108, 114, 100])
  | 5 => ("DaysBag$Reader", 136, "<=>", [60, 61, 62])
  | 6 => ("DaysBag$Reader", 87, "0123456789", [48, 49, 50, 51, 52, 53, 54, 55, 56, 57])
  | 7 => ("DaysBagModel", 119, "sglrd", [115, 103, 108, 114, 100])
  | 8 => ("DaysBagModel", 125, "<=>", [60, 61, 62])
  | 9 => ("DaysBagModel", 133, "over ", [111, 118, 101, 114, 32])
  | 10 => ("DaysBagModel", 139, "an ", [97, 110, 32])
  | _ => ("DaysBagModel", 144, "pay ", [112, 97, 121, 32])
def zX (G : ZG) (U : State) : Prop :=
  (∀ i, i < 3 → va_Z "DaysBag" (zArr i).1 "[I" (.ref (G.2 i)) (zA G.1) U U.heap ∧ va_T .int (G.2 i) (zArr i).2.length (fun j => .int ((zArr i).2.getD j 0)) (zA G.1) U U.heap) ∧
  (∀ i, i < 12 → vk_R (zStr i).1 (zStr i).2.1 (zStr i).2.2.1 (G.2 (10 + i)) U ∧ va_O "java/lang/String" (G.2 (10 + i)) (zA G.1) U U.heap ∧ va_OF "java/lang/String" "coder" "B" (.int 0) (G.2 (10 + i)) (zA G.1) U U.heap ∧ va_OF "java/lang/String" "value" "[B" (.ref (G.2 (30 + i))) (G.2 (10 + i)) (zA G.1) U U.heap ∧ va_T .byte (G.2 (30 + i)) (zStr i).2.2.2.length (fun j => .int ((zStr i).2.2.2.getD j 0)) (zA G.1) U U.heap) ∧
  va_Z "java/lang/String" "COMPACT_STRINGS" "Z" (.int 1) (zA G.1) U U.heap
theorem zX.to {G : ZG} {s U : State} (h : zX G s) (hW : s.WarmedH U.vm) (hq : ∀ a : Nat, a < s.heap.size → ¬ zA G.1 a → U.heap[a]? = s.heap[a]?) : zX G U := by
  obtain ⟨h1, h2, h3⟩ := h
  refine ⟨fun i hi => ⟨((h1 i hi).1.moved hW.alike).kept hq, ((h1 i hi).2.moved hW.alike).kept hq⟩, fun i hi => ?_, (h3.moved hW.alike).kept hq⟩
  obtain ⟨g1, g2, g3, g4, g5⟩ := h2 i hi
  exact ⟨g1.warm hW, (va_O.moved hW.alike g2).kept hq, (va_OF.moved hW.alike g3).kept hq, (va_OF.moved hW.alike g4).kept hq, (va_T.moved hW.alike g5).kept hq⟩
def zTys (dA : Nat → ClassId) : List (ClassId × FieldType) := [(dA 0, .int), (dA 1, .long), (dA 2, .boolean), (dA 3, .object "DaysBag$Worker")]
/-- a return instruction, and what it hands over -/
def zRet (M : ZM) (pc : Nat) (v : Option Value) : Prop :=
  (∃ (x : Int32) (ty : FieldType), v = some (.int x) ∧ mR M = some ty ∧ narrow ty (.int x) = .int x ∧ decode (mC M) pc = .ok (.ireturn, 1)) ∨
  (∃ x : Int64, v = some (.long x) ∧ mR M = some .long ∧ decode (mC M) pc = .ok (.lreturn, 1)) ∨
  (∃ (r : Value) (rt : FieldType), v = some r ∧ (r = .null ∨ ∃ a, r = .ref a) ∧ mR M = some rt ∧ ((∃ n, rt = .object n) ∨ ∃ t, rt = .array t) ∧ decode (mC M) pc = .ok (.areturn, 1)) ∨
  (v = none ∧ mR M = none ∧ decode (mC M) pc = .ok (.return_, 1))
/-- what stands for a whole activation -/
def ZC (G : ZG) (M : ZM) (d : Nat) (post : Option Value → AH → Prop) (p : Program) (l : Launch) (e : Env) (R : Room) (s : State) (m : MethodId) (args : Array Value) (below : List Frame) (meth : Method) (c : Code) (Q : State → Prop) (D : va_G) (dA : Nat → ClassId) : Prop :=
  p.tables.exec = Jvm.exec ∧ c.code = mC M ∧ c.maxLocals = mL M ∧ s.vm.findClass (mY M).cls = some m.cls ∧ (∀ w ∈ zT, w.before args s = true) ∧ meth.name = (mY M).name ∧ va_K D vwCl (zTys dA) s ∧ zX G s ∧ G.1 ≤ s.heap.size ∧ (d ≤ R.frames ∧ 64 * d ≤ R.locals ∧ mK M ≤ R.cells ∧ mS M ≤ R.slots) ∧
  ∀ (v : Option Value) (α : AH) (H : Heap) (locs : List Loc) (cells slots pc : Nat) (ls : Array Slot), post v α → zR G.1 D dA α H → va_S (zA G.1) s.heap H locs → cells ≤ mK M → slots ≤ mS M → zRet M pc v → W p l e R s m args below meth c H locs cells slots Q (F0 m pc ls v.toList)
def zL (ls : Array Slot) (n : Nat) (L : List (Option Value)) : Prop := ls.size = n ∧ lv_wf ls ∧ ∀ (i : Nat) (v : Value), L[i]? = some (some v) → ls[i]? = some (.val v)
/-- the machine at pc, with these locals and this stack, over the abstract heap, comes to the method's end with post -/
def Z (G : ZG) (M : ZM) (d pc : Nat) (L : List (Option Value)) (st : List Value) (α : AH) (u : Nat × Nat) (post : Option Value → AH → Prop) : Prop :=
  ∀ (p : Program) (l : Launch) (e : Env) (R : Room) (s : State) (m : MethodId) (args : Array Value) (below : List Frame) (meth : Method) (c : Code) (Q : State → Prop) (D : va_G) (dA : Nat → ClassId), ZC G M d post p l e R s m args below meth c Q D dA →
  ∀ (H : Heap) (locs : List Loc) (ls : Array Slot), zR G.1 D dA α H → va_S (zA G.1) s.heap H locs → zL ls (mL M) L → W p l e R s m args below meth c H locs u.1 u.2 Q (F0 m pc ls st)
section ZR1
variable {G : ZG} {M : ZM} {d pc pc' : Nat} {L L' : List (Option Value)} {st st' : List Value} {α α' : AH} {u u' : Nat × Nat} {post : Option Value → AH → Prop}
theorem Z.go (h : ∀ (p : Program) (l : Launch) (e : Env) (R : Room) (s : State) (m : MethodId) (args : Array Value) (below : List Frame) (meth : Method) (c : Code) (Q : State → Prop) (H : Heap) (locs : List Loc) (ls : Array Slot), p.tables.exec = Jvm.exec → c.code = mC M → W p l e R s m args below meth c H locs u.1 u.2 Q (F0 m pc' ls st') → W p l e R s m args below meth c H locs u.1 u.2 Q (F0 m pc ls st)) (k : Z G M d pc' L st' α u post) : Z G M d pc L st α u post :=
  fun p l e R s m args below meth c Q D dA C H locs ls hR hS hl => h p l e R s m args below meth c Q H locs ls C.1 C.2.1 (k p l e R s m args below meth c Q D dA C H locs ls hR hS hl)
/-- a row over the locals -/
theorem Z.goL (h : ∀ (p : Program) (l : Launch) (e : Env) (R : Room) (s : State) (m : MethodId) (args : Array Value) (below : List Frame) (meth : Method) (c : Code) (Q : State → Prop) (H : Heap) (locs : List Loc) (ls : Array Slot), p.tables.exec = Jvm.exec → c.code = mC M → zL ls (mL M) L → (∀ ls', zL ls' (mL M) L' → W p l e R s m args below meth c H locs u.1 u.2 Q (F0 m pc' ls' st')) → W p l e R s m args below meth c H locs u.1 u.2 Q (F0 m pc ls st)) (k : Z G M d pc' L' st' α u post) : Z G M d pc L st α u post :=
  fun p l e R s m args below meth c Q D dA C H locs ls hR hS hl => h p l e R s m args below meth c Q H locs ls C.1 C.2.1 hl (fun ls' hl' => k p l e R s m args below meth c Q D dA C H locs ls' hR hS hl')
theorem zL.at {ls : Array Slot} {n : Nat} (h : zL ls n L) {i : Nat} {v : Value} (e : L[i]? = some (some v)) : ls[i]? = some (.val v) := h.2.2 i v e
/-- the list of what is set -/
def zpairs (L : List (Option Value)) : List (Nat × Value) := (List.range L.length).filterMap (fun i => match L[i]? with
  | some (some v) => some (i, v)
  | _ => none)
theorem zpairs_mem {i : Nat} {v : Value} : (i, v) ∈ zpairs L ↔ L[i]? = some (some v) := by
  unfold zpairs
  rw [List.mem_filterMap]
  constructor
  · rintro ⟨j, -, hj⟩
    split at hj
    · rename_i w hw
      cases hj
      exact hw
    · cases hj
  · intro h
    refine ⟨i, List.mem_range.mpr (List.getElem?_eq_some_iff.mp h).1, ?_⟩
    rw [h]
theorem zL.has {ls : Array Slot} {n : Nat} (h : zL ls n L) : lv_has ls n (zpairs L) := ⟨h.1, h.2.1, fun q hq => h.2.2 q.1 q.2 (zpairs_mem.mp (by obtain ⟨a, b⟩ := q; exact hq))⟩
theorem zL.of {ls : Array Slot} {n : Nat} {l : List (Nat × Value)} (h : lv_has ls n l) (hm : ∀ (i : Nat) (v : Value), L[i]? = some (some v) → (i, v) ∈ l) : zL ls n L := ⟨h.1, h.2.1, fun i v e => h.2.2 (i, v) (hm i v e)⟩
/-- no long's second half lies at i -/
def zok (L : List (Option Value)) (i : Nat) : Bool := match i with
  | 0 => true
  | j + 1 => match L[j]? with
    | some (some (.long _)) => false
    | some (some (.double _)) => false
    | _ => true
theorem zok_cat {i : Nat} (h : zok L i = true) {j : Nat} {v : Value} (hj : L[j]? = some (some v)) (e : j + 1 = i) : v.category = 1 := by
  subst e
  simp only [zok, hj] at h
  cases v <;> first | rfl | cases h
theorem zL_store1 {ls' : Array Slot} {n i : Nat} {v : Value} (hk : zok L i = true) (h : lv_has ls' n ((i, v) :: (zpairs L).filter (fun q => !(q.1 == i) && !(q.1 + 1 == i && q.2.category == 2)))) : zL ls' n (L.set i (some v)) := by
  refine zL.of h (fun j w e => ?_)
  by_cases hj : i = j
  · subst hj
    rw [List.getElem?_set] at e
    rw [if_pos rfl] at e
    split at e
    · cases e; exact List.mem_cons_self
    · cases e
  · rw [List.getElem?_set_ne hj] at e
    refine List.mem_cons_of_mem _ (List.mem_filter.mpr ⟨zpairs_mem.mpr e, ?_⟩)
    have h1 : (j == i) = false := by simpa using fun z => hj z.symm
    by_cases h2 : j + 1 = i
    · simp [h1, zok_cat hk e h2]
    · simp [h1, h2]
theorem zL_store2 {ls' : Array Slot} {n i : Nat} {v : Value} (hk : zok L i = true) (h : lv_has ls' n ((i, v) :: (zpairs L).filter (fun q => !(q.1 == i) && (!(q.1 == i + 1) && !(q.1 + 1 == i && q.2.category == 2))))) : zL ls' n ((L.set i (some v)).set (i + 1) none) := by
  refine zL.of h (fun j w e => ?_)
  by_cases hj1 : i + 1 = j
  · subst hj1
    rw [List.getElem?_set] at e
    rw [if_pos rfl] at e
    split at e <;> cases e
  · rw [List.getElem?_set_ne hj1] at e
    by_cases hj : i = j
    · subst hj
      rw [List.getElem?_set] at e
      rw [if_pos rfl] at e
      split at e
      · cases e; exact List.mem_cons_self
      · cases e
    · rw [List.getElem?_set_ne hj] at e
      refine List.mem_cons_of_mem _ (List.mem_filter.mpr ⟨zpairs_mem.mpr e, ?_⟩)
      have h1 : (j == i) = false := by simpa using fun z => hj z.symm
      have h3 : (j == i + 1) = false := by simpa using fun z => hj1 z.symm
      by_cases h2 : j + 1 = i
      · simp [h1, h3, zok_cat hk e h2]
      · simp [h1, h3, h2]
/-- fewer locals are known -/
theorem Z.less (h : ∀ (i : Nat) (v : Value), L'[i]? = some (some v) → L[i]? = some (some v)) (k : Z G M d pc L' st α u post) : Z G M d pc L st α u post :=
  fun p l e R s m args below meth c Q D dA C H locs ls hR hS hl => k p l e R s m args below meth c Q D dA C H locs ls hR hS ⟨hl.1, hl.2.1, fun i v e => hl.2.2 i v (h i v e)⟩
theorem Z_topi {x : Int32} (k : ∀ y : Int32, y = x → Z G M d pc L (.int y :: st) α u post) : Z G M d pc L (.int x :: st) α u post := k x rfl
theorem Z_topl {x : Int64} (k : ∀ y : Int64, y = x → Z G M d pc L (.long y :: st) α u post) : Z G M d pc L (.long x :: st) α u post := k x rfl
theorem Z_iconst {n : Int} {v : Int32} (hd : decode (mC M) pc = .ok (.iconst n, 1)) (hv : Int32.ofInt n = v) (k : Z G M d (pc + 1) L (.int v :: st) α u post) : Z G M d pc L st α u post := Z.go (fun _ _ _ _ _ _ _ _ _ _ _ _ _ _ hx hb => lv_iconst hx hb hd hv) k
theorem Z_bipush {n : Int} {v : Int32} (hd : decode (mC M) pc = .ok (.bipush n, 2)) (hv : (Int8.ofInt n).toInt32 = v) (k : Z G M d (pc + 2) L (.int v :: st) α u post) : Z G M d pc L st α u post := Z.go (fun _ _ _ _ _ _ _ _ _ _ _ _ _ _ hx hb => lv_bipush hx hb hd hv) k
theorem Z_sipush {n : Int} {v : Int32} (hd : decode (mC M) pc = .ok (.sipush n, 3)) (hv : (Int16.ofInt n).toInt32 = v) (k : Z G M d (pc + 3) L (.int v :: st) α u post) : Z G M d pc L st α u post := Z.go (fun _ _ _ _ _ _ _ _ _ _ _ _ _ _ hx hb => lv_sipush hx hb hd hv) k
theorem Z_lconst {n : Fin 2} {v : Int64} (hd : decode (mC M) pc = .ok (.lconst n, 1)) (hv : Int64.ofNat (n : Nat) = v) (k : Z G M d (pc + 1) L (.long v :: st) α u post) : Z G M d pc L st α u post := Z.go (fun _ _ _ _ _ _ _ _ _ _ _ _ _ _ hx hb => lv_lconst hx hb hd hv) k
theorem Z_null (hd : decode (mC M) pc = .ok (.aconst_null, 1)) (k : Z G M d (pc + 1) L (.null :: st) α u post) : Z G M d pc L st α u post := Z.go (fun _ _ _ _ _ _ _ _ _ _ _ _ _ _ hx hb => lv_null hx hb hd) k

theorem Z_iadd {x y : Int32} (hd : decode (mC M) pc = .ok (.iadd, 1)) (k : Z G M d (pc + 1) L (.int ((x + y)) :: st) α u post) : Z G M d pc L (.int y :: .int x :: st) α u post := Z.go (fun _ _ _ _ _ _ _ _ _ _ _ _ _ _ hx hb => lv_iadd hx hb hd) k
theorem Z_isub {x y : Int32} (hd : decode (mC M) pc = .ok (.isub, 1)) (k : Z G M d (pc + 1) L (.int ((x - y)) :: st) α u post) : Z G M d pc L (.int y :: .int x :: st) α u post := Z.go (fun _ _ _ _ _ _ _ _ _ _ _ _ _ _ hx hb => lv_isub hx hb hd) k
theorem Z_imul {x y : Int32} (hd : decode (mC M) pc = .ok (.imul, 1)) (k : Z G M d (pc + 1) L (.int ((x * y)) :: st) α u post) : Z G M d pc L (.int y :: .int x :: st) α u post := Z.go (fun _ _ _ _ _ _ _ _ _ _ _ _ _ _ hx hb => lv_imul hx hb hd) k
theorem Z_iand {x y : Int32} (hd : decode (mC M) pc = .ok (.iand, 1)) (k : Z G M d (pc + 1) L (.int ((x &&& y)) :: st) α u post) : Z G M d pc L (.int y :: .int x :: st) α u post := Z.go (fun _ _ _ _ _ _ _ _ _ _ _ _ _ _ hx hb => lv_iand hx hb hd) k
theorem Z_ior {x y : Int32} (hd : decode (mC M) pc = .ok (.ior, 1)) (k : Z G M d (pc + 1) L (.int ((x ||| y)) :: st) α u post) : Z G M d pc L (.int y :: .int x :: st) α u post := Z.go (fun _ _ _ _ _ _ _ _ _ _ _ _ _ _ hx hb => lv_ior hx hb hd) k
theorem Z_ixor {x y : Int32} (hd : decode (mC M) pc = .ok (.ixor, 1)) (k : Z G M d (pc + 1) L (.int ((x ^^^ y)) :: st) α u post) : Z G M d pc L (.int y :: .int x :: st) α u post := Z.go (fun _ _ _ _ _ _ _ _ _ _ _ _ _ _ hx hb => lv_ixor hx hb hd) k
theorem Z_idiv {x y : Int32} (hd : decode (mC M) pc = .ok (.idiv, 1)) (hne : ¬ y = 0) (k : Z G M d (pc + 1) L (.int ((x / y)) :: st) α u post) : Z G M d pc L (.int y :: .int x :: st) α u post := Z.go (fun _ _ _ _ _ _ _ _ _ _ _ _ _ _ hx hb => lv_idiv hx hb hd hne) k
theorem Z_irem {x y : Int32} (hd : decode (mC M) pc = .ok (.irem, 1)) (hne : ¬ y = 0) (k : Z G M d (pc + 1) L (.int ((x - x / y * y)) :: st) α u post) : Z G M d pc L (.int y :: .int x :: st) α u post := Z.go (fun _ _ _ _ _ _ _ _ _ _ _ _ _ _ hx hb => lv_irem hx hb hd hne) k
theorem Z_ishl {x y : Int32} (hd : decode (mC M) pc = .ok (.ishl, 1)) (k : Z G M d (pc + 1) L (.int ((x <<< (y &&& 31))) :: st) α u post) : Z G M d pc L (.int y :: .int x :: st) α u post := Z.go (fun _ _ _ _ _ _ _ _ _ _ _ _ _ _ hx hb => lv_ishl hx hb hd) k
theorem Z_ishr {x y : Int32} (hd : decode (mC M) pc = .ok (.ishr, 1)) (k : Z G M d (pc + 1) L (.int ((x >>> (y &&& 31))) :: st) α u post) : Z G M d pc L (.int y :: .int x :: st) α u post := Z.go (fun _ _ _ _ _ _ _ _ _ _ _ _ _ _ hx hb => lv_ishr hx hb hd) k
theorem Z_ladd {x y : Int64} (hd : decode (mC M) pc = .ok (.ladd, 1)) (k : Z G M d (pc + 1) L (.long ((x + y)) :: st) α u post) : Z G M d pc L (.long y :: .long x :: st) α u post := Z.go (fun _ _ _ _ _ _ _ _ _ _ _ _ _ _ hx hb => lv_ladd hx hb hd) k
theorem Z_lsub {x y : Int64} (hd : decode (mC M) pc = .ok (.lsub, 1)) (k : Z G M d (pc + 1) L (.long ((x - y)) :: st) α u post) : Z G M d pc L (.long y :: .long x :: st) α u post := Z.go (fun _ _ _ _ _ _ _ _ _ _ _ _ _ _ hx hb => lv_lsub hx hb hd) k
theorem Z_lmul {x y : Int64} (hd : decode (mC M) pc = .ok (.lmul, 1)) (k : Z G M d (pc + 1) L (.long ((x * y)) :: st) α u post) : Z G M d pc L (.long y :: .long x :: st) α u post := Z.go (fun _ _ _ _ _ _ _ _ _ _ _ _ _ _ hx hb => lv_lmul hx hb hd) k
theorem Z_ldiv {x y : Int64} (hd : decode (mC M) pc = .ok (.ldiv, 1)) (hne : ¬ y = 0) (k : Z G M d (pc + 1) L (.long ((x / y)) :: st) α u post) : Z G M d pc L (.long y :: .long x :: st) α u post := Z.go (fun _ _ _ _ _ _ _ _ _ _ _ _ _ _ hx hb => lv_ldiv hx hb hd hne) k
theorem Z_lrem {x y : Int64} (hd : decode (mC M) pc = .ok (.lrem, 1)) (hne : ¬ y = 0) (k : Z G M d (pc + 1) L (.long ((x - x / y * y)) :: st) α u post) : Z G M d pc L (.long y :: .long x :: st) α u post := Z.go (fun _ _ _ _ _ _ _ _ _ _ _ _ _ _ hx hb => lv_lrem hx hb hd hne) k
theorem Z_ineg {x : Int32} (hd : decode (mC M) pc = .ok (.ineg, 1)) (k : Z G M d (pc + 1) L (.int ((-x)) :: st) α u post) : Z G M d pc L (.int x :: st) α u post := Z.go (fun _ _ _ _ _ _ _ _ _ _ _ _ _ _ hx hb => lv_ineg hx hb hd) k
theorem Z_lneg {x : Int64} (hd : decode (mC M) pc = .ok (.lneg, 1)) (k : Z G M d (pc + 1) L (.long ((-x)) :: st) α u post) : Z G M d pc L (.long x :: st) α u post := Z.go (fun _ _ _ _ _ _ _ _ _ _ _ _ _ _ hx hb => lv_lneg hx hb hd) k
theorem Z_i2l {x : Int32} (hd : decode (mC M) pc = .ok (.i2l, 1)) (k : Z G M d (pc + 1) L (.long x.toInt64 :: st) α u post) : Z G M d pc L (.int x :: st) α u post := Z.go (fun _ _ _ _ _ _ _ _ _ _ _ _ _ _ hx hb => lv_i2l hx hb hd rfl) k
theorem Z_i2c {x : Int32} (hd : decode (mC M) pc = .ok (.i2c, 1)) (k : Z G M d (pc + 1) L (.int (x.toUInt32 % 65536).toInt32 :: st) α u post) : Z G M d pc L (.int x :: st) α u post := Z.go (fun _ _ _ _ _ _ _ _ _ _ _ _ _ _ hx hb => lv_i2c hx hb hd rfl) k
theorem Z_dup {v : Value} (hd : decode (mC M) pc = .ok (.dup, 1)) (hc : v.category = 1) (k : Z G M d (pc + 1) L (v :: v :: st) α u post) : Z G M d pc L (v :: st) α u post := Z.go (fun _ _ _ _ _ _ _ _ _ _ _ _ _ _ hx hb => lv_dup hx hb hd hc) k
theorem Z_dup2 {v w : Value} (hd : decode (mC M) pc = .ok (.dup2, 1)) (hv : v.category = 1) (hw : w.category = 1) (k : Z G M d (pc + 1) L (v :: w :: v :: w :: st) α u post) : Z G M d pc L (v :: w :: st) α u post := Z.go (fun _ _ _ _ _ _ _ _ _ _ _ _ _ _ hx hb => lv_dup2_11 hx hb hd hv hw) k
theorem Z_goto {off : Int} {tgt : Nat} (hd : decode (mC M) pc = .ok (.goto off, 3)) (ht : (pc : Int) + off = (tgt : Int)) (k : Z G M d tgt L st α u post) : Z G M d pc L st α u post := Z.go (fun _ _ _ _ _ _ _ _ _ _ _ _ _ _ hx hb => lv_goto hx hb hd ht) k
theorem Z_lcmp {x y : Int64} (hd : decode (mC M) pc = .ok (.lcmp, 1)) (k : Z G M d (pc + 1) L (.int (lg_cmp x y) :: st) α u post) : Z G M d pc L (.long y :: .long x :: st) α u post := Z.go (fun _ _ _ _ _ _ _ _ _ _ _ _ _ _ hx hb => W.lcmp hx hb hd) k
-- lv_if_eq: ['x = 0', '¬ x = 0']
theorem Z_if_eq {x : Int32} {off : Int} {tgt : Nat} (hd : decode (mC M) pc = .ok (.ifCond .eq off, 3)) (ht : (pc : Int) + off = (tgt : Int)) (k1 : x = 0 → Z G M d tgt L st α u post) (k2 : ¬ x = 0 → Z G M d (pc + 3) L st α u post) : Z G M d pc L (.int x :: st) α u post :=
  fun p l e R s m args below meth c Q D dA C H locs ls hR hS hl => lv_if_eq C.1 C.2.1 hd ht (fun h => k1 h p l e R s m args below meth c Q D dA C H locs ls hR hS hl) (fun h => k2 h p l e R s m args below meth c Q D dA C H locs ls hR hS hl)
theorem Z_icmp_eq {x y : Int32} {off : Int} {tgt : Nat} (hd : decode (mC M) pc = .ok (.if_icmp .eq off, 3)) (ht : (pc : Int) + off = (tgt : Int)) (k1 : x = y → Z G M d tgt L st α u post) (k2 : ¬ x = y → Z G M d (pc + 3) L st α u post) : Z G M d pc L (.int y :: .int x :: st) α u post :=
  fun p l e R s m args below meth c Q D dA C H locs ls hR hS hl => lv_icmp_eq C.1 C.2.1 hd ht (fun h => k1 h p l e R s m args below meth c Q D dA C H locs ls hR hS hl) (fun h => k2 h p l e R s m args below meth c Q D dA C H locs ls hR hS hl)
-- lv_if_ne: ['¬ x = 0', 'x = 0']
theorem Z_if_ne {x : Int32} {off : Int} {tgt : Nat} (hd : decode (mC M) pc = .ok (.ifCond .ne off, 3)) (ht : (pc : Int) + off = (tgt : Int)) (k1 : ¬ x = 0 → Z G M d tgt L st α u post) (k2 : x = 0 → Z G M d (pc + 3) L st α u post) : Z G M d pc L (.int x :: st) α u post :=
  fun p l e R s m args below meth c Q D dA C H locs ls hR hS hl => lv_if_ne C.1 C.2.1 hd ht (fun h => k1 h p l e R s m args below meth c Q D dA C H locs ls hR hS hl) (fun h => k2 h p l e R s m args below meth c Q D dA C H locs ls hR hS hl)
theorem Z_icmp_ne {x y : Int32} {off : Int} {tgt : Nat} (hd : decode (mC M) pc = .ok (.if_icmp .ne off, 3)) (ht : (pc : Int) + off = (tgt : Int)) (k1 : ¬ x = y → Z G M d tgt L st α u post) (k2 : x = y → Z G M d (pc + 3) L st α u post) : Z G M d pc L (.int y :: .int x :: st) α u post :=
  fun p l e R s m args below meth c Q D dA C H locs ls hR hS hl => lv_icmp_ne C.1 C.2.1 hd ht (fun h => k1 h p l e R s m args below meth c Q D dA C H locs ls hR hS hl) (fun h => k2 h p l e R s m args below meth c Q D dA C H locs ls hR hS hl)
-- lv_if_lt: ['x < 0', '¬ x < 0']
theorem Z_if_lt {x : Int32} {off : Int} {tgt : Nat} (hd : decode (mC M) pc = .ok (.ifCond .lt off, 3)) (ht : (pc : Int) + off = (tgt : Int)) (k1 : x < 0 → Z G M d tgt L st α u post) (k2 : ¬ x < 0 → Z G M d (pc + 3) L st α u post) : Z G M d pc L (.int x :: st) α u post :=
  fun p l e R s m args below meth c Q D dA C H locs ls hR hS hl => lv_if_lt C.1 C.2.1 hd ht (fun h => k1 h p l e R s m args below meth c Q D dA C H locs ls hR hS hl) (fun h => k2 h p l e R s m args below meth c Q D dA C H locs ls hR hS hl)
theorem Z_icmp_lt {x y : Int32} {off : Int} {tgt : Nat} (hd : decode (mC M) pc = .ok (.if_icmp .lt off, 3)) (ht : (pc : Int) + off = (tgt : Int)) (k1 : x < y → Z G M d tgt L st α u post) (k2 : ¬ x < y → Z G M d (pc + 3) L st α u post) : Z G M d pc L (.int y :: .int x :: st) α u post :=
  fun p l e R s m args below meth c Q D dA C H locs ls hR hS hl => lv_icmp_lt C.1 C.2.1 hd ht (fun h => k1 h p l e R s m args below meth c Q D dA C H locs ls hR hS hl) (fun h => k2 h p l e R s m args below meth c Q D dA C H locs ls hR hS hl)
-- lv_if_ge: ['0 ≤ x', '¬ 0 ≤ x']
theorem Z_if_ge {x : Int32} {off : Int} {tgt : Nat} (hd : decode (mC M) pc = .ok (.ifCond .ge off, 3)) (ht : (pc : Int) + off = (tgt : Int)) (k1 : 0 ≤ x → Z G M d tgt L st α u post) (k2 : ¬ 0 ≤ x → Z G M d (pc + 3) L st α u post) : Z G M d pc L (.int x :: st) α u post :=
  fun p l e R s m args below meth c Q D dA C H locs ls hR hS hl => lv_if_ge C.1 C.2.1 hd ht (fun h => k1 h p l e R s m args below meth c Q D dA C H locs ls hR hS hl) (fun h => k2 h p l e R s m args below meth c Q D dA C H locs ls hR hS hl)
theorem Z_icmp_ge {x y : Int32} {off : Int} {tgt : Nat} (hd : decode (mC M) pc = .ok (.if_icmp .ge off, 3)) (ht : (pc : Int) + off = (tgt : Int)) (k1 : y ≤ x → Z G M d tgt L st α u post) (k2 : ¬ y ≤ x → Z G M d (pc + 3) L st α u post) : Z G M d pc L (.int y :: .int x :: st) α u post :=
  fun p l e R s m args below meth c Q D dA C H locs ls hR hS hl => lv_icmp_ge C.1 C.2.1 hd ht (fun h => k1 h p l e R s m args below meth c Q D dA C H locs ls hR hS hl) (fun h => k2 h p l e R s m args below meth c Q D dA C H locs ls hR hS hl)
-- lv_if_gt: ['0 < x', '¬ 0 < x']
theorem Z_if_gt {x : Int32} {off : Int} {tgt : Nat} (hd : decode (mC M) pc = .ok (.ifCond .gt off, 3)) (ht : (pc : Int) + off = (tgt : Int)) (k1 : 0 < x → Z G M d tgt L st α u post) (k2 : ¬ 0 < x → Z G M d (pc + 3) L st α u post) : Z G M d pc L (.int x :: st) α u post :=
  fun p l e R s m args below meth c Q D dA C H locs ls hR hS hl => lv_if_gt C.1 C.2.1 hd ht (fun h => k1 h p l e R s m args below meth c Q D dA C H locs ls hR hS hl) (fun h => k2 h p l e R s m args below meth c Q D dA C H locs ls hR hS hl)
theorem Z_icmp_gt {x y : Int32} {off : Int} {tgt : Nat} (hd : decode (mC M) pc = .ok (.if_icmp .gt off, 3)) (ht : (pc : Int) + off = (tgt : Int)) (k1 : y < x → Z G M d tgt L st α u post) (k2 : ¬ y < x → Z G M d (pc + 3) L st α u post) : Z G M d pc L (.int y :: .int x :: st) α u post :=
  fun p l e R s m args below meth c Q D dA C H locs ls hR hS hl => lv_icmp_gt C.1 C.2.1 hd ht (fun h => k1 h p l e R s m args below meth c Q D dA C H locs ls hR hS hl) (fun h => k2 h p l e R s m args below meth c Q D dA C H locs ls hR hS hl)
-- lv_if_le: ['x ≤ 0', '¬ x ≤ 0']
theorem Z_if_le {x : Int32} {off : Int} {tgt : Nat} (hd : decode (mC M) pc = .ok (.ifCond .le off, 3)) (ht : (pc : Int) + off = (tgt : Int)) (k1 : x ≤ 0 → Z G M d tgt L st α u post) (k2 : ¬ x ≤ 0 → Z G M d (pc + 3) L st α u post) : Z G M d pc L (.int x :: st) α u post :=
  fun p l e R s m args below meth c Q D dA C H locs ls hR hS hl => lv_if_le C.1 C.2.1 hd ht (fun h => k1 h p l e R s m args below meth c Q D dA C H locs ls hR hS hl) (fun h => k2 h p l e R s m args below meth c Q D dA C H locs ls hR hS hl)
theorem Z_icmp_le {x y : Int32} {off : Int} {tgt : Nat} (hd : decode (mC M) pc = .ok (.if_icmp .le off, 3)) (ht : (pc : Int) + off = (tgt : Int)) (k1 : x ≤ y → Z G M d tgt L st α u post) (k2 : ¬ x ≤ y → Z G M d (pc + 3) L st α u post) : Z G M d pc L (.int y :: .int x :: st) α u post :=
  fun p l e R s m args below meth c Q D dA C H locs ls hR hS hl => lv_icmp_le C.1 C.2.1 hd ht (fun h => k1 h p l e R s m args below meth c Q D dA C H locs ls hR hS hl) (fun h => k2 h p l e R s m args below meth c Q D dA C H locs ls hR hS hl)
theorem Z_ifnull {x : Nat} {off : Int} (hd : decode (mC M) pc = .ok (.ifnull off, 3)) (k : Z G M d (pc + 3) L st α u post) : Z G M d pc L (.ref x :: st) α u post := Z.go (fun _ _ _ _ _ _ _ _ _ _ _ _ _ _ hx hb => lv_ifnull hx hb hd) k
theorem Z_ifnullN {off : Int} {tgt : Nat} (hd : decode (mC M) pc = .ok (.ifnull off, 3)) (ht : (pc : Int) + off = (tgt : Int)) (k : Z G M d tgt L st α u post) : Z G M d pc L (.null :: st) α u post := Z.go (fun _ _ _ _ _ _ _ _ _ _ _ _ _ _ hx hb => lv_ifnullN hx hb hd ht) k
theorem Z_ifnonnull {x : Nat} {off : Int} {tgt : Nat} (hd : decode (mC M) pc = .ok (.ifnonnull off, 3)) (ht : (pc : Int) + off = (tgt : Int)) (k : Z G M d tgt L st α u post) : Z G M d pc L (.ref x :: st) α u post := Z.go (fun _ _ _ _ _ _ _ _ _ _ _ _ _ _ hx hb => lv_ifnonnull hx hb hd ht) k
theorem Z_ifnonnullN {off : Int} (hd : decode (mC M) pc = .ok (.ifnonnull off, 3)) (k : Z G M d (pc + 3) L st α u post) : Z G M d pc L (.null :: st) α u post := Z.go (fun _ _ _ _ _ _ _ _ _ _ _ _ _ _ hx hb => lv_ifnonnullN hx hb hd) k
theorem Z_iload_n {k : Fin 4} {i : Nat} {x : Int32} (hd : decode (mC M) pc = .ok (.iload_n k, 1)) (hi : (k : Nat) = i) (hl : L[i]? = some (some (.int x))) (kk : Z G M d (pc + 1) L (.int x :: st) α u post) : Z G M d pc L st α u post := Z.goL (fun _ _ _ _ _ _ _ _ _ _ _ _ _ ls hx hb h k => lv_iload_n hx hb hd hi (h.at hl) (k ls h)) kk
theorem Z_iload {i : Nat} {x : Int32} (hd : decode (mC M) pc = .ok (.iload i, 2)) (hl : L[i]? = some (some (.int x))) (kk : Z G M d (pc + 2) L (.int x :: st) α u post) : Z G M d pc L st α u post := Z.goL (fun _ _ _ _ _ _ _ _ _ _ _ _ _ ls hx hb h k => lv_iload hx hb hd (h.at hl) (k ls h)) kk
theorem Z_lload_n {k : Fin 4} {i : Nat} {x : Int64} (hd : decode (mC M) pc = .ok (.lload_n k, 1)) (hi : (k : Nat) = i) (hl : L[i]? = some (some (.long x))) (kk : Z G M d (pc + 1) L (.long x :: st) α u post) : Z G M d pc L st α u post := Z.goL (fun _ _ _ _ _ _ _ _ _ _ _ _ _ ls hx hb h k => lv_lload_n hx hb hd hi (h.at hl) (k ls h)) kk
theorem Z_lload {i : Nat} {x : Int64} (hd : decode (mC M) pc = .ok (.lload i, 2)) (hl : L[i]? = some (some (.long x))) (kk : Z G M d (pc + 2) L (.long x :: st) α u post) : Z G M d pc L st α u post := Z.goL (fun _ _ _ _ _ _ _ _ _ _ _ _ _ ls hx hb h k => lv_lload hx hb hd (h.at hl) (k ls h)) kk
theorem Z_aload_n {k : Fin 4} {i : Nat} {x : Nat} (hd : decode (mC M) pc = .ok (.aload_n k, 1)) (hi : (k : Nat) = i) (hl : L[i]? = some (some (.ref x))) (kk : Z G M d (pc + 1) L (.ref x :: st) α u post) : Z G M d pc L st α u post := Z.goL (fun _ _ _ _ _ _ _ _ _ _ _ _ _ ls hx hb h k => lv_aload_n hx hb hd hi (h.at hl) (k ls h)) kk
theorem Z_aload {i : Nat} {x : Nat} (hd : decode (mC M) pc = .ok (.aload i, 2)) (hl : L[i]? = some (some (.ref x))) (kk : Z G M d (pc + 2) L (.ref x :: st) α u post) : Z G M d pc L st α u post := Z.goL (fun _ _ _ _ _ _ _ _ _ _ _ _ _ ls hx hb h k => lv_aload hx hb hd (h.at hl) (k ls h)) kk
theorem Z_aload_nN {k : Fin 4} {i : Nat} (hd : decode (mC M) pc = .ok (.aload_n k, 1)) (hi : (k : Nat) = i) (hl : L[i]? = some (some .null)) (kk : Z G M d (pc + 1) L (.null :: st) α u post) : Z G M d pc L st α u post := Z.goL (fun _ _ _ _ _ _ _ _ _ _ _ _ _ ls hx hb h k => lv_aload_nN hx hb hd hi (h.at hl) (k ls h)) kk
theorem Z_aloadN {i : Nat} (hd : decode (mC M) pc = .ok (.aload i, 2)) (hl : L[i]? = some (some .null)) (kk : Z G M d (pc + 2) L (.null :: st) α u post) : Z G M d pc L st α u post := Z.goL (fun _ _ _ _ _ _ _ _ _ _ _ _ _ ls hx hb h k => lv_aloadN hx hb hd (h.at hl) (k ls h)) kk
theorem Z_istore_n {k : Fin 4} {i : Nat} {x : Int32} (hd : decode (mC M) pc = .ok (.istore_n k, 1)) (hi : (k : Nat) = i) (hn : i < mL M) (hk : zok L i = true) (hL : L.set i (some (.int x)) = L') (kk : Z G M d (pc + 1) L' st α u post) : Z G M d pc L (.int x :: st) α u post := Z.goL (fun _ _ _ _ _ _ _ _ _ _ _ _ _ ls hx hb h k => lv_istore_n hx hb hd hi h.has hn rfl (fun ls' h' => k ls' (hL ▸ zL_store1 hk h'))) kk
theorem Z_istore {i : Nat} {x : Int32} (hd : decode (mC M) pc = .ok (.istore i, 2)) (hn : i < mL M) (hk : zok L i = true) (hL : L.set i (some (.int x)) = L') (kk : Z G M d (pc + 2) L' st α u post) : Z G M d pc L (.int x :: st) α u post := Z.goL (fun _ _ _ _ _ _ _ _ _ _ _ _ _ ls hx hb h k => lv_istore hx hb hd h.has hn rfl (fun ls' h' => k ls' (hL ▸ zL_store1 hk h'))) kk
theorem Z_astore_n {k : Fin 4} {i : Nat} {x : Nat} (hd : decode (mC M) pc = .ok (.astore_n k, 1)) (hi : (k : Nat) = i) (hn : i < mL M) (hk : zok L i = true) (hL : L.set i (some (.ref x)) = L') (kk : Z G M d (pc + 1) L' st α u post) : Z G M d pc L (.ref x :: st) α u post := Z.goL (fun _ _ _ _ _ _ _ _ _ _ _ _ _ ls hx hb h k => lv_astore_n hx hb hd hi h.has hn rfl (fun ls' h' => k ls' (hL ▸ zL_store1 hk h'))) kk
theorem Z_astore {i : Nat} {x : Nat} (hd : decode (mC M) pc = .ok (.astore i, 2)) (hn : i < mL M) (hk : zok L i = true) (hL : L.set i (some (.ref x)) = L') (kk : Z G M d (pc + 2) L' st α u post) : Z G M d pc L (.ref x :: st) α u post := Z.goL (fun _ _ _ _ _ _ _ _ _ _ _ _ _ ls hx hb h k => lv_astore hx hb hd h.has hn rfl (fun ls' h' => k ls' (hL ▸ zL_store1 hk h'))) kk
theorem Z_astore_nN {k : Fin 4} {i : Nat} (hd : decode (mC M) pc = .ok (.astore_n k, 1)) (hi : (k : Nat) = i) (hn : i < mL M) (hk : zok L i = true) (hL : L.set i (some .null) = L') (kk : Z G M d (pc + 1) L' st α u post) : Z G M d pc L (.null :: st) α u post := Z.goL (fun _ _ _ _ _ _ _ _ _ _ _ _ _ ls hx hb h k => lv_astore_nN hx hb hd hi h.has hn rfl (fun ls' h' => k ls' (hL ▸ zL_store1 hk h'))) kk
theorem Z_astoreN {i : Nat} (hd : decode (mC M) pc = .ok (.astore i, 2)) (hn : i < mL M) (hk : zok L i = true) (hL : L.set i (some .null) = L') (kk : Z G M d (pc + 2) L' st α u post) : Z G M d pc L (.null :: st) α u post := Z.goL (fun _ _ _ _ _ _ _ _ _ _ _ _ _ ls hx hb h k => lv_astoreN hx hb hd h.has hn rfl (fun ls' h' => k ls' (hL ▸ zL_store1 hk h'))) kk
theorem Z_lstore_n {k : Fin 4} {i : Nat} {x : Int64} (hd : decode (mC M) pc = .ok (.lstore_n k, 1)) (hi : (k : Nat) = i) (hn : i + 1 < mL M) (hk : zok L i = true) (hL : (L.set i (some (.long x))).set (i + 1) none = L') (kk : Z G M d (pc + 1) L' st α u post) : Z G M d pc L (.long x :: st) α u post := Z.goL (fun _ _ _ _ _ _ _ _ _ _ _ _ _ ls hx hb h k => lv_lstore_n hx hb hd hi h.has hn rfl (fun ls' h' => k ls' (hL ▸ zL_store2 hk h'))) kk
theorem Z_lstore {i : Nat} {x : Int64} (hd : decode (mC M) pc = .ok (.lstore i, 2)) (hn : i + 1 < mL M) (hk : zok L i = true) (hL : (L.set i (some (.long x))).set (i + 1) none = L') (kk : Z G M d (pc + 2) L' st α u post) : Z G M d pc L (.long x :: st) α u post := Z.goL (fun _ _ _ _ _ _ _ _ _ _ _ _ _ ls hx hb h k => lv_lstore hx hb hd h.has hn rfl (fun ls' h' => k ls' (hL ▸ zL_store2 hk h'))) kk
theorem Z_iinc {i : Nat} {n : Int} {x v : Int32} (hd : decode (mC M) pc = .ok (.iinc i n, 3)) (hl : L[i]? = some (some (.int x))) (hv : x + Int32.ofInt n = v) (hn : i < mL M) (hk : zok L i = true) (hL : L.set i (some (.int v)) = L') (kk : Z G M d (pc + 3) L' st α u post) : Z G M d pc L st α u post :=
  Z.goL (fun _ _ _ _ _ _ _ _ _ _ _ _ _ ls hx hb h k => by
    obtain ⟨j, hj⟩ := List.getElem?_of_mem (zpairs_mem.mpr hl)
    exact lv_iinc hx hb hd h.has hj hv hn rfl (fun ls' h' => k ls' (hL ▸ zL_store1 hk h'))) kk
theorem Z_iret {x : Int32} {ty : FieldType} (hd : decode (mC M) pc = .ok (.ireturn, 1)) (hty : mR M = some ty) (hn : narrow ty (.int x) = .int x) (hu : u.1 ≤ mK M ∧ u.2 ≤ mS M) (h : post (some (.int x)) α) : Z G M d pc L [.int x] α u post :=
  fun p l e R s m args below meth c Q D dA C H locs ls hR hS _ => C.2.2.2.2.2.2.2.2.2.2 _ α H locs u.1 u.2 pc ls h hR hS hu.1 hu.2 (Or.inl ⟨x, ty, rfl, hty, hn, hd⟩)
theorem Z_lret {x : Int64} (hd : decode (mC M) pc = .ok (.lreturn, 1)) (hty : mR M = some .long) (hu : u.1 ≤ mK M ∧ u.2 ≤ mS M) (h : post (some (.long x)) α) : Z G M d pc L [.long x] α u post :=
  fun p l e R s m args below meth c Q D dA C H locs ls hR hS _ => C.2.2.2.2.2.2.2.2.2.2 _ α H locs u.1 u.2 pc ls h hR hS hu.1 hu.2 (Or.inr (Or.inl ⟨x, rfl, hty, hd⟩))
theorem Z_aret {r : Value} {rt : FieldType} (hd : decode (mC M) pc = .ok (.areturn, 1)) (hr : r = .null ∨ ∃ a, r = .ref a) (hty : mR M = some rt) (hrt : (∃ n, rt = .object n) ∨ ∃ t, rt = .array t) (hu : u.1 ≤ mK M ∧ u.2 ≤ mS M) (h : post (some r) α) : Z G M d pc L [r] α u post :=
  fun p l e R s m args below meth c Q D dA C H locs ls hR hS _ => C.2.2.2.2.2.2.2.2.2.2 _ α H locs u.1 u.2 pc ls h hR hS hu.1 hu.2 (Or.inr (Or.inr (Or.inl ⟨r, rt, rfl, hr, hty, hrt, hd⟩)))
theorem Z_vret (hd : decode (mC M) pc = .ok (.return_, 1)) (hty : mR M = none) (hu : u.1 ≤ mK M ∧ u.2 ≤ mS M) (h : post none α) : Z G M d pc L [] α u post :=
  fun p l e R s m args below meth c Q D dA C H locs ls hR hS _ => C.2.2.2.2.2.2.2.2.2.2 _ α H locs u.1 u.2 pc ls h hR hS hu.1 hu.2 (Or.inr (Or.inr (Or.inr ⟨rfl, hty, hd⟩)))
end ZR1
end
section
section ZR2
variable {G : ZG} {M : ZM} {d pc pc' : Nat} {L L' : List (Option Value)} {st st' : List Value} {α α' : AH} {u u' : Nat × Nat} {post : Option Value → AH → Prop}
/-- a row that reads the heap and the tables -/
theorem Z.goR (h : ∀ (p : Program) (l : Launch) (e : Env) (R : Room) (s : State) (m : MethodId) (args : Array Value) (below : List Frame) (meth : Method) (c : Code) (Q : State → Prop) (D : va_G) (dA : Nat → ClassId) (H : Heap) (locs : List Loc) (ls : Array Slot), ZC G M d post p l e R s m args below meth c Q D dA → zR G.1 D dA α H → va_S (zA G.1) s.heap H locs → ls.size = mL M → W p l e R s m args below meth c H locs u.1 u.2 Q (F0 m pc' ls st') → W p l e R s m args below meth c H locs u.1 u.2 Q (F0 m pc ls st)) (k : Z G M d pc' L st' α u post) : Z G M d pc L st α u post :=
  fun p l e R s m args below meth c Q D dA C H locs ls hR hS hl => h p l e R s m args below meth c Q D dA H locs ls C hR hS hl.1 (k p l e R s m args below meth c Q D dA C H locs ls hR hS hl)
/-- a row that writes the heap -/
theorem Z.goW (h : ∀ (p : Program) (l : Launch) (e : Env) (R : Room) (s : State) (m : MethodId) (args : Array Value) (below : List Frame) (meth : Method) (c : Code) (Q : State → Prop) (D : va_G) (dA : Nat → ClassId) (H : Heap) (locs : List Loc) (ls : Array Slot), ZC G M d post p l e R s m args below meth c Q D dA → zR G.1 D dA α H → va_S (zA G.1) s.heap H locs → ls.size = mL M → (∀ (H1 : Heap) (locs1 : List Loc), zR G.1 D dA α' H1 → va_S (zA G.1) s.heap H1 locs1 → W p l e R s m args below meth c H1 locs1 u'.1 u'.2 Q (F0 m pc' ls st')) → W p l e R s m args below meth c H locs u.1 u.2 Q (F0 m pc ls st)) (k : Z G M d pc' L st' α' u' post) : Z G M d pc L st α u post :=
  fun p l e R s m args below meth c Q D dA C H locs ls hR hS hl => h p l e R s m args below meth c Q D dA H locs ls C hR hS hl.1 (fun H1 locs1 hR1 hS1 => k p l e R s m args below meth c Q D dA C H1 locs1 ls hR1 hS1 hl)
theorem zfld_same {own : String} {args : Array Value} {s : State} {T : u_T} {j : Nat} {ref : String} (hts : ∀ w ∈ zT, w.before args s = true) (h : ref = (T j).1 ∨ Cond.sameField ref (T j).1 (T j).2.1 (T j).2.2.1 ∈ zT) : ∀ x, s.fieldFound? (T j).1 (T j).2.1 (T j).2.2.1 = some x → s.fieldFound? ref (T j).2.1 (T j).2.2.1 = some x := by
  rcases h with h | h
  · subst h; exact fun _ h => h
  · exact fun x hx => u_same (hts _ h) x hx
theorem Z_getv {c j k n idx : Nat} (hd : decode (mC M) pc = .ok (.getfield idx, 3)) (hc : zCls c) (hf : zFld (mY M).cls idx c j) (hs : zIs α k (c + 4, n)) (kk : Z G M d (pc + 3) L (zfv G.1 (zTy c j) α k j :: st) α u post) : Z G M d pc L (.ref (G.1 + k) :: st) α u post := by
  refine Z.goR (fun p l e R s m args below meth c' Q D dA H locs ls C hR hV hl kk => ?_) kk
  obtain ⟨hx, hb, -, hown, hts, -, hK, -⟩ := C
  obtain ⟨C, T, N, e1, e2, hin, -, -⟩ := hc
  obtain ⟨C2, T2, N2, ref, f1, f2, f3, f4⟩ := hf
  cases e1.symm.trans f1
  obtain ⟨cell, q1, q2, q3, q4⟩ := (hR.2 k hs.1).o hs.2
  obtain ⟨hSl, hfc, kC, hkC, hkind⟩ := hK.1 c _ e1
  obtain ⟨cf, kf, fi, f, hi, hsl⟩ := hSl j f2
  refine W.getf hx hb hown (hts _ f3) (zfld_same (own := C) hts f4 _ hi) (u_facts hfc hkC (u_lays hts hin f2) hi).1 q1 (by rw [q3]; exact fun h => by cases h) (v := zfv G.1 (zTy c j) α k j) ?_ rfl rfl hd kk
  rw [hsl, q4 j (by rw [e2]; exact f2)]
theorem Z_getI {c j k n idx : Nat} (hd : decode (mC M) pc = .ok (.getfield idx, 3)) (hc : zCls c) (hf : zFld (mY M).cls idx c j) (ht : zfk (zTy c j) = 0) (hs : zIs α k (c + 4, n)) (kk : Z G M d (pc + 3) L (.int (hI α k j) :: st) α u post) : Z G M d pc L (.ref (G.1 + k) :: st) α u post :=
  Z_getv hd hc hf hs (by unfold zfv; rw [ht]; exact kk)
theorem Z_getJ {c j k n idx : Nat} (hd : decode (mC M) pc = .ok (.getfield idx, 3)) (hc : zCls c) (hf : zFld (mY M).cls idx c j) (ht : zfk (zTy c j) = 1) (hs : zIs α k (c + 4, n)) (kk : Z G M d (pc + 3) L (.long (hJ α k j) :: st) α u post) : Z G M d pc L (.ref (G.1 + k) :: st) α u post :=
  Z_getv hd hc hf hs (by unfold zfv; rw [ht]; exact kk)
theorem Z_getP {c j k n idx : Nat} {r : Option Nat} (hd : decode (mC M) pc = .ok (.getfield idx, 3)) (hc : zCls c) (hf : zFld (mY M).cls idx c j) (ht : zfk (zTy c j) = 2) (hs : zIs α k (c + 4, n)) (hr : hP α k j = r) (kk : Z G M d (pc + 3) L (zrf G.1 r :: st) α u post) : Z G M d pc L (.ref (G.1 + k) :: st) α u post :=
  Z_getv hd hc hf hs (by unfold zfv; rw [ht, hr]; exact kk)
/-- a field that holds a cell -/
theorem Z_getR {c j k n idx i : Nat} (hd : decode (mC M) pc = .ok (.getfield idx, 3)) (hc : zCls c) (hf : zFld (mY M).cls idx c j) (ht : zfk (zTy c j) = 2) (hs : zIs α k (c + 4, n)) (hr : hP α k j = some i) (kk : Z G M d (pc + 3) L (.ref (G.1 + i) :: st) α u post) : Z G M d pc L (.ref (G.1 + k) :: st) α u post :=
  Z_getP hd hc hf ht hs hr kk
theorem zfv_set {o : Nat} {c : Nat} {α β : AH} {k j : Nat} {v : Value} (hv : zfv o (zTy c j) β k j = v) (hk : ∀ i, i ≠ j → zfv o (zTy c i) β k i = zfv o (zTy c i) α k i) : ∀ i, updV (fun i => zfv o (zTy c i) α k i) j v i = zfv o (zTy c i) β k i := by
  intro i
  by_cases e : i = j
  · subst e; simp [updV, hv]
  · simp [updV, e, hk i e]
/-- a write to a field, in general -/
theorem Z_putv {c j k n idx : Nat} {v : Value} {β : AH} (hd : decode (mC M) pc = .ok (.putfield idx, 3)) (hc : zCls c) (hf : zFld (mY M).cls idx c j) (hfin : zFin (mY M).cls c j false ∨ (zFin (mY M).cls c j true ∧ (mY M).name = "<init>")) (hs : zIs α k (c + 4, n)) (hn : narrow (zTy c j) v = v) (hfit : fits (zTy c j) v = true)
    (b1 : hN β = hN α) (b2 : ∀ b, b ≠ k → hS β b = hS α b ∧ hI β b = hI α b ∧ hJ β b = hJ α b ∧ hP β b = hP α b) (b3 : hS β k = hS α k) (b4 : zfv G.1 (zTy c j) β k j = v) (b5 : ∀ i, i ≠ j → zfv G.1 (zTy c i) β k i = zfv G.1 (zTy c i) α k i)
    (kk : Z G M d (pc + 3) L st β u post) : Z G M d pc L (v :: .ref (G.1 + k) :: st) α u post := by
  refine Z.goW (fun p l e R s m args below meth c' Q D dA H locs ls C hR hV hl kk => ?_) kk
  obtain ⟨hx, hb, -, hown, hts, hname, hK, -, hos, -⟩ := C
  obtain ⟨C, T, N, e1, e2, hin, hnm, hty⟩ := hc
  obtain ⟨C2, T2, N2, ref, f1, f2, f3, f4⟩ := hf
  cases e1.symm.trans f1
  have hap := va_apart (own := C) hts hin (zTy c) hty hnm hK e1
  obtain ⟨cell, q1, q2, q3, q4⟩ := (hR.2 k hs.1).o hs.2
  rw [e2] at q4
  obtain ⟨hSl, hfc, kC, hkC, hkind⟩ := hK.1 c _ e1
  obtain ⟨cf, kf, fi, f, hi, hsl⟩ := hSl j f2
  have hst := (u_facts hfc hkC (u_lays hts hin f2) hi).1
  have hsame := zfld_same (own := C) hts f4 _ hi
  have hend : ∀ H' : Heap, H'[G.1 + k]? = some (cell.setSlot f.slot v) → H'.size = H.size → (∀ q, q ≠ G.1 + k → H'[q]? = H[q]?) → W p l e R s m args below meth c' H' (locs ++ [⟨G.1 + k, f.slot⟩]) u.1 u.2 Q { F0 m pc ls (v :: .ref (G.1 + k) :: st) with pc := pc + 3, stack := st } := by
    intro H' e1' e2' e3'
    rw [hsl] at e1' ⊢
    refine kk H' _ (hR.put b1 b2 e2' e3' ?_) (hV.put e2' e3' (Nat.le_add_right _ _))
    have hSk : hS β k = (c + 4, n) := by rw [b3]; exact hs.2
    unfold zAt
    rw [hSk]
    show t_OB (G.1 + k) (D.1 c) (znf c) (D.2 c) H' (fun j => zfv G.1 (zTy c j) β k j)
    rw [e2]
    exact t_OB.to (V := updV (fun i => zfv G.1 (zTy c i) α k i) j v) ⟨_, e1', q2, q3, t_set q4 hap f2 v⟩ (fun i _ => zfv_set b4 b5 i)
  have hlay := hts _ (hin _ (u_in_lay f2))
  unfold u_lay at hlay
  rcases hfin with hfin | ⟨hfin, hini⟩
  · obtain ⟨q, g1, g2, -⟩ := hfin
    cases e1.symm.trans g1
    rw [if_neg (by rw [g2]; decide)] at hlay
    have h6 := u_store hfc hkC hkind hlay hi (hty j f2) hn hfit
    exact W.putK hx hb (f := f) ⟨hown, hts _ f3, ⟨_, _, _, hsame⟩, hst⟩ (by rw [q2]; exact h6) q1 q3 (by rw [hsl]; exact k2_hasslot (q4 j f2)) rfl rfl hd hend
  · obtain ⟨q, g1, g2, g3⟩ := hfin
    cases e1.symm.trans g1
    rw [if_pos g2] at hlay
    have hcf : m.cls = cf := by
      obtain ⟨_, _, c', _, _, _, -, -, hf', -, -, -, hown2, -⟩ := Cond.laysFinal_spec hlay
      have e1 : c' = cf := by have := hi.symm.trans hf'; simp at this; exact this.1.symm
      rw [g3 rfl] at hown2
      rw [← e1]; exact Option.some.inj (hown.symm.trans hown2)
    have h6 := u_fits hfc hkC hkind (Or.inr hlay) hi (hty j f2) hn hfit
    exact W.putFinK hx hb hown (hts _ f3) hsame hst hcf (by rw [hname]; exact hini) (by rw [q2]; exact h6) q1 q3 (by rw [hsl]; exact k2_hasslot (q4 j f2)) rfl rfl hd hend
theorem u2_row {β : Type} {f : Nat → Nat → β} {a k b : Nat} {x : β} (h : b ≠ a) : u2 f a k x b = f b := u1_n h
theorem u2_at {β : Type} {f : Nat → Nat → β} {a k : Nat} {x : β} : u2 f a k x a k = x := by unfold u2; rw [u1_s, u1_s]
theorem u2_ne {β : Type} {f : Nat → Nat → β} {a k j : Nat} {x : β} (h : j ≠ k) : u2 f a k x a j = f a j := by unfold u2; rw [u1_s, u1_n h]
theorem Z_putI {c j k n idx : Nat} {x : Int32} (hd : decode (mC M) pc = .ok (.putfield idx, 3)) (hc : zCls c) (hf : zFld (mY M).cls idx c j) (hfin : zFin (mY M).cls c j false ∨ (zFin (mY M).cls c j true ∧ (mY M).name = "<init>")) (ht : zfk (zTy c j) = 0) (hs : zIs α k (c + 4, n)) (hn : narrow (zTy c j) (.int x) = .int x) (hfit : fits (zTy c j) (.int x) = true)
    (kk : Z G M d (pc + 3) L st (sI α k j x) u post) : Z G M d pc L (.int x :: .ref (G.1 + k) :: st) α u post := by
  refine Z_putv (β := sI α k j x) hd hc hf hfin hs hn hfit rfl (fun b hb => ⟨rfl, u2_row hb, rfl, rfl⟩) rfl ?_ (fun i hi => ?_) kk
  · unfold zfv; rw [ht]; exact congrArg Value.int u2_at
  · unfold zfv; rw [show hI (sI α k j x) k i = hI α k i from u2_ne hi]; rfl
theorem Z_putJ {c j k n idx : Nat} {x : Int64} (hd : decode (mC M) pc = .ok (.putfield idx, 3)) (hc : zCls c) (hf : zFld (mY M).cls idx c j) (hfin : zFin (mY M).cls c j false ∨ (zFin (mY M).cls c j true ∧ (mY M).name = "<init>")) (ht : zfk (zTy c j) = 1) (hs : zIs α k (c + 4, n)) (hn : narrow (zTy c j) (.long x) = .long x) (hfit : fits (zTy c j) (.long x) = true)
    (kk : Z G M d (pc + 3) L st (sJ α k j x) u post) : Z G M d pc L (.long x :: .ref (G.1 + k) :: st) α u post := by
  refine Z_putv (β := sJ α k j x) hd hc hf hfin hs hn hfit rfl (fun b hb => ⟨rfl, rfl, u2_row hb, rfl⟩) rfl ?_ (fun i hi => ?_) kk
  · unfold zfv; rw [ht]; exact congrArg Value.long u2_at
  · unfold zfv; rw [show hJ (sJ α k j x) k i = hJ α k i from u2_ne hi]; rfl
theorem Z_putP {c j k n idx : Nat} {r : Option Nat} (hd : decode (mC M) pc = .ok (.putfield idx, 3)) (hc : zCls c) (hf : zFld (mY M).cls idx c j) (hfin : zFin (mY M).cls c j false ∨ (zFin (mY M).cls c j true ∧ (mY M).name = "<init>")) (ht : zfk (zTy c j) = 2) (hs : zIs α k (c + 4, n)) (hn : narrow (zTy c j) (zrf G.1 r) = zrf G.1 r) (hfit : fits (zTy c j) (zrf G.1 r) = true)
    (kk : Z G M d (pc + 3) L st (sP α k j r) u post) : Z G M d pc L (zrf G.1 r :: .ref (G.1 + k) :: st) α u post := by
  refine Z_putv (β := sP α k j r) hd hc hf hfin hs hn hfit rfl (fun b hb => ⟨rfl, rfl, rfl, u2_row hb⟩) rfl ?_ (fun i hi => ?_) kk
  · unfold zfv; rw [ht]; exact congrArg (zrf G.1) u2_at
  · unfold zfv; rw [show hP (sP α k j r) k i = hP α k i from u2_ne hi]; rfl
theorem Z_putR {c j k n idx i : Nat} (hd : decode (mC M) pc = .ok (.putfield idx, 3)) (hc : zCls c) (hf : zFld (mY M).cls idx c j) (hfin : zFin (mY M).cls c j false ∨ (zFin (mY M).cls c j true ∧ (mY M).name = "<init>")) (ht : zfk (zTy c j) = 2) (hs : zIs α k (c + 4, n)) (hn : narrow (zTy c j) (.ref (G.1 + i)) = .ref (G.1 + i)) (hfit : fits (zTy c j) (.ref (G.1 + i)) = true)
    (kk : Z G M d (pc + 3) L st (sP α k j (some i)) u post) : Z G M d pc L (.ref (G.1 + i) :: .ref (G.1 + k) :: st) α u post := Z_putP (r := some i) hd hc hf hfin ht hs hn hfit kk
/-! arrays -/
theorem Z_iald {k n : Nat} {i : Int32} (hd : decode (mC M) pc = .ok (.iaload, 1)) (hs : zIs α k (0, n)) (hin : vp_in i n) (kk : Z G M d (pc + 1) L (.int (hI α k i.toNatClampNeg) :: st) α u post) : Z G M d pc L (.int i :: .ref (G.1 + k) :: st) α u post := by
  refine Z.goR (fun p l e R s m args below meth c' Q D dA H locs ls C hR hV hl kk => ?_) kk
  have hlt : i.toNatClampNeg < n := Nat.not_le.mp fun q => hin (Or.inr q)
  exact W.iald (v := .int (hI α k i.toNatClampNeg)) C.1 C.2.1 ((hR.2 k hs.1).i hs.2) ((C.2.2.2.2.2.2.1.2 0 _ rfl).1 n _) (fun q => by cases q) (by rw [arrV_size]; exact hin) (by rw [arrV_read _ _ hlt]) rfl rfl hd kk
theorem Z_lald {k n : Nat} {i : Int32} (hd : decode (mC M) pc = .ok (.laload, 1)) (hs : zIs α k (1, n)) (hin : vp_in i n) (kk : Z G M d (pc + 1) L (.long (hJ α k i.toNatClampNeg) :: st) α u post) : Z G M d pc L (.int i :: .ref (G.1 + k) :: st) α u post := by
  refine Z.goR (fun p l e R s m args below meth c' Q D dA H locs ls C hR hV hl kk => ?_) kk
  have hlt : i.toNatClampNeg < n := Nat.not_le.mp fun q => hin (Or.inr q)
  exact W.lald (v := .long (hJ α k i.toNatClampNeg)) C.1 C.2.1 ((hR.2 k hs.1).l hs.2) ((C.2.2.2.2.2.2.1.2 1 _ rfl).1 n _) (fun q => by cases q) (by rw [arrV_size]; exact hin) (by rw [arrV_read _ _ hlt]) rfl rfl hd kk
theorem Z_zald {k n : Nat} {i : Int32} (hd : decode (mC M) pc = .ok (.baload, 1)) (hs : zIs α k (2, n)) (hin : vp_in i n) (kk : Z G M d (pc + 1) L (.int (hI α k i.toNatClampNeg) :: st) α u post) : Z G M d pc L (.int i :: .ref (G.1 + k) :: st) α u post := by
  refine Z.goR (fun p l e R s m args below meth c' Q D dA H locs ls C hR hV hl kk => ?_) kk
  have hlt : i.toNatClampNeg < n := Nat.not_le.mp fun q => hin (Or.inr q)
  exact W.zald (v := .int (hI α k i.toNatClampNeg)) C.1 C.2.1 ((hR.2 k hs.1).z hs.2) ((C.2.2.2.2.2.2.1.2 2 _ rfl).1 n _) (fun q => by cases q) (by rw [arrV_size]; exact hin) (by rw [arrV_read _ _ hlt]) rfl rfl hd kk
theorem Z_aald {k n : Nat} {i : Int32} {r : Option Nat} (hd : decode (mC M) pc = .ok (.aaload, 1)) (hs : zIs α k (3, n)) (hin : vp_in i n) (hr : hP α k i.toNatClampNeg = r) (kk : Z G M d (pc + 1) L (zrf G.1 r :: st) α u post) : Z G M d pc L (.int i :: .ref (G.1 + k) :: st) α u post := by
  subst hr
  refine Z.goR (fun p l e R s m args below meth c' Q D dA H locs ls C hR hV hl kk => ?_) kk
  have hlt : i.toNatClampNeg < n := Nat.not_le.mp fun q => hin (Or.inr q)
  exact W.aald (v := zrf G.1 (hP α k i.toNatClampNeg)) (ty := .object "DaysBag$Worker") C.1 C.2.1 ((hR.2 k hs.1).q hs.2) ((C.2.2.2.2.2.2.1.2 3 _ rfl).1 n _) rfl (fun q => by cases q) (by rw [arrV_size]; exact hin) (by rw [arrV_read _ _ hlt]) rfl rfl hd kk
theorem Z_iast {k n : Nat} {i x : Int32} (hd : decode (mC M) pc = .ok (.iastore, 1)) (hs : zIs α k (0, n)) (hin : vp_in i n) (kk : Z G M d (pc + 1) L st (sI α k i.toNatClampNeg x) u post) : Z G M d pc L (.int x :: .int i :: .ref (G.1 + k) :: st) α u post := by
  refine Z.goW (fun p l e R s m args below meth c' Q D dA H locs ls C hR hV hl kk => ?_) kk
  refine W.iast C.1 C.2.1 ((hR.2 k hs.1).i hs.2) ((C.2.2.2.2.2.2.1.2 0 _ rfl).1 n _) (fun q => by cases q) (by rw [arrV_size]; exact hin) rfl rfl hd (fun H1 e z oq => ?_)
  refine kk H1 _ (hR.put (β := sI α k i.toNatClampNeg x) rfl (fun b hb => ⟨rfl, u2_row hb, rfl, rfl⟩) z oq ?_) (hV.put z oq (Nat.le_add_right _ _))
  unfold zAt
  rw [show hS (sI α k i.toNatClampNeg x) k = (0, n) from hs.2]
  show H1[G.1 + k]? = some (arrV (dA 0) n (fun j => .int (hI (sI α k i.toNatClampNeg x) k j)))
  rw [e, arrV_store]
  congr 2
  funext q
  by_cases hq : q = i.toNatClampNeg
  · subst hq; simp only [updV]; rw [if_pos trivial]; exact congrArg Value.int u2_at.symm
  · simp only [updV]; rw [if_neg hq]; exact congrArg Value.int (u2_ne hq).symm
theorem Z_last {k n : Nat} {i : Int32} {x : Int64} (hd : decode (mC M) pc = .ok (.lastore, 1)) (hs : zIs α k (1, n)) (hin : vp_in i n) (kk : Z G M d (pc + 1) L st (sJ α k i.toNatClampNeg x) u post) : Z G M d pc L (.long x :: .int i :: .ref (G.1 + k) :: st) α u post := by
  refine Z.goW (fun p l e R s m args below meth c' Q D dA H locs ls C hR hV hl kk => ?_) kk
  refine W.last C.1 C.2.1 ((hR.2 k hs.1).l hs.2) ((C.2.2.2.2.2.2.1.2 1 _ rfl).1 n _) (fun q => by cases q) (by rw [arrV_size]; exact hin) rfl rfl hd (fun H1 e z oq => ?_)
  refine kk H1 _ (hR.put (β := sJ α k i.toNatClampNeg x) rfl (fun b hb => ⟨rfl, rfl, u2_row hb, rfl⟩) z oq ?_) (hV.put z oq (Nat.le_add_right _ _))
  unfold zAt
  rw [show hS (sJ α k i.toNatClampNeg x) k = (1, n) from hs.2]
  show H1[G.1 + k]? = some (arrV (dA 1) n (fun j => .long (hJ (sJ α k i.toNatClampNeg x) k j)))
  rw [e, arrV_store]
  congr 2
  funext q
  by_cases hq : q = i.toNatClampNeg
  · subst hq; simp only [updV]; rw [if_pos trivial]; exact congrArg Value.long u2_at.symm
  · simp only [updV]; rw [if_neg hq]; exact congrArg Value.long (u2_ne hq).symm
theorem Z_zast {k n : Nat} {i x : Int32} (hd : decode (mC M) pc = .ok (.bastore, 1)) (hs : zIs α k (2, n)) (hin : vp_in i n) (hx1 : vp_nar .boolean x = x) (kk : Z G M d (pc + 1) L st (sI α k i.toNatClampNeg x) u post) : Z G M d pc L (.int x :: .int i :: .ref (G.1 + k) :: st) α u post := by
  refine Z.goW (fun p l e R s m args below meth c' Q D dA H locs ls C hR hV hl kk => ?_) kk
  refine W.zast C.1 C.2.1 ((hR.2 k hs.1).z hs.2) ((C.2.2.2.2.2.2.1.2 2 _ rfl).1 n _) (fun q => by cases q) (by rw [arrV_size]; exact hin) rfl rfl hd (fun H1 e z oq => ?_)
  refine kk H1 _ (hR.put (β := sI α k i.toNatClampNeg x) rfl (fun b hb => ⟨rfl, u2_row hb, rfl, rfl⟩) z oq ?_) (hV.put z oq (Nat.le_add_right _ _))
  unfold zAt
  rw [show hS (sI α k i.toNatClampNeg x) k = (2, n) from hs.2]
  show H1[G.1 + k]? = some (arrV (dA 2) n (fun j => .int (hI (sI α k i.toNatClampNeg x) k j)))
  rw [e, arrV_store]
  congr 2
  funext q
  by_cases hq : q = i.toNatClampNeg
  · subst hq
    have h2 : hI (sI α k i.toNatClampNeg x) k i.toNatClampNeg = x := u2_at
    rw [h2]
    have h3 : narrow .boolean (.int x) = .int (vp_nar .boolean x) := by simp [vp_nar]; rfl
    simp only [updV]
    rw [if_pos trivial]
    first | (rw [h3, hx1]; done) | (rw [hx1]; done) | (simp [hx1]; done) | (simp only [vp_nar] at hx1; simp_all)
  · simp only [updV]; rw [if_neg hq]; exact congrArg Value.int (u2_ne hq).symm
theorem Z_alen {k t n : Nat} (hd : decode (mC M) pc = .ok (.arraylength, 1)) (hs : zIs α k (t, n)) (ht : t < 4) (kk : Z G M d (pc + 1) L (.int (nI n) :: st) α u post) : Z G M d pc L (.ref (G.1 + k) :: st) α u post := by
  refine Z.goR (fun p l e R s m args below meth c' Q D dA H locs ls C hR hV hl kk => ?_) kk
  have hsz : ∀ (cA : ClassId) (f : Nat → Value), (arrV cA n f).slots.size.toInt32 = nI n := fun cA f => by rw [arrV_size]; rfl
  match t, ht, hs with
  | 0, _, hs => exact W.alen C.1 C.2.1 ((hR.2 k hs.1).i hs.2) ((C.2.2.2.2.2.2.1.2 0 _ rfl).1 n _) (hsz _ _) rfl rfl hd kk
  | 1, _, hs => exact W.alen C.1 C.2.1 ((hR.2 k hs.1).l hs.2) ((C.2.2.2.2.2.2.1.2 1 _ rfl).1 n _) (hsz _ _) rfl rfl hd kk
  | 2, _, hs => exact W.alen C.1 C.2.1 ((hR.2 k hs.1).z hs.2) ((C.2.2.2.2.2.2.1.2 2 _ rfl).1 n _) (hsz _ _) rfl rfl hd kk
  | 3, _, hs => exact W.alen C.1 C.2.1 ((hR.2 k hs.1).q hs.2) ((C.2.2.2.2.2.2.1.2 3 _ rfl).1 n _) (hsz _ _) rfl rfl hd kk
end ZR2
end
section
section ZR3
variable {G : ZG} {M : ZM} {d pc pc' : Nat} {L L' : List (Option Value)} {st st' : List Value} {α α' : AH} {u u' : Nat × Nat} {post : Option Value → AH → Prop}
/-! making cells -/
def zNew (own : String) (idx c : Nat) : Prop := ∃ (C : String) (T : u_T) (N : Nat), vwCl[c]? = some (C, T, N) ∧ Cond.classLink own idx C ∈ zT ∧ Cond.instantiable C N ∈ zT ∧ Cond.initialized C ∈ zT
theorem zdef {o : Nat} {α : AH} {sh : Nat × Nat} {f : Nat → Int32} (hf : ∀ j, f j = 0) (t : FieldType) (ht : t ≠ .float ∧ t ≠ .double) (j : Nat) : defaultValue t = zfv o t (nw α sh f) (hN α) j := by
  have h1 : hI (nw α sh f) (hN α) j = 0 := by show u1 α.2.2.1 α.1 f α.1 j = 0; rw [u1_s]; exact hf j
  have h2 : hJ (nw α sh f) (hN α) j = 0 := by show u1 α.2.2.2.1 α.1 (fun _ => 0) α.1 j = 0; rw [u1_s]
  have h3 : hP (nw α sh f) (hN α) j = none := by show u1 α.2.2.2.2 α.1 (fun _ => none) α.1 j = none; rw [u1_s]
  unfold zfv
  rw [h1, h2, h3]
  cases t <;> first | rfl | exact absurd rfl ht.1 | exact absurd rfl ht.2
theorem hS_nw {α : AH} {sh : Nat × Nat} {f : Nat → Int32} : hS (nw α sh f) (hN α) = sh := u1_s _ _ _
theorem Z_new {c idx : Nat} (hd : decode (mC M) pc = .ok (.new idx, 3)) (hc : zCls c) (hw : zNew (mY M).cls idx c) (hty : ∀ j, j < znf c → zTy c j ≠ .float ∧ zTy c j ≠ .double) (hu : u.1 + 1 ≤ mK M ∧ u.2 + znf c ≤ mS M)
    (kk : Z G M d (pc + 3) L (.ref (G.1 + hN α) :: st) (nw α (c + 4, znf c) (fun _ => 0)) (u.1 + 1, u.2 + znf c) post) : Z G M d pc L st α u post := by
  refine Z.goW (fun p l e R s m args below meth c' Q D dA H locs ls C hR hV hl kk => ?_) kk
  obtain ⟨hx, hb, -, hown, hts, hname, hK, -, hos, hroom, -⟩ := C
  obtain ⟨C, T, N, e1, e2, hin, hnm, hpt⟩ := hc
  obtain ⟨C2, T2, N2, f1, f2, f3, f4⟩ := hw
  cases e1.symm.trans f1
  have hKn := hK.1 c _ e1
  subst e2
  refine W.newcK hx hb hown (hts _ f2) (hts _ f3) (hts _ f4) rfl hd (Nat.le_trans hu.1 hroom.2.2.1) (Nat.le_trans hu.2 hroom.2.2.2) hKn.2.1 hR.1 fun H1 kC hkC e1' z1 o1 => ?_
  refine kk H1 locs (hR.new (by rw [z1, hR.1]) (fun q hq => o1 q (by rw [← hR.1]; exact hq)) ?_) ⟨Nat.le_trans hV.1 (by rw [z1, hR.1]; omega), fun q h1 h2 => (o1 q (by rw [← hR.1]; exact Nat.lt_of_lt_of_le h1 hV.1)).trans (hV.2.1 q h1 h2), hV.2.2⟩
  unfold zAt
  rw [hS_nw]
  exact (u_born (zTy c) hts hin hKn hkC e1' hpt).to (fun j hj => zdef (fun _ => rfl) _ (hty j hj) j)
theorem Z_newa {t : Nat} {ty : FieldType} {atype : ArrayType} {n : Int32} {N : Nat} (hd : decode (mC M) pc = .ok (.newarray atype, 2)) (hty : newarray.typeOf atype = ty) (ht : (t = 0 ∧ ty = .int) ∨ (t = 1 ∧ ty = .long) ∨ (t = 2 ∧ ty = .boolean)) (ha : Cond.arrayClass ty ∈ zT) (hn : ¬ n < 0) (hN' : n.toNatClampNeg = N) (hb8 : N * 8 ≤ 536870912) (hu : u.1 + 1 ≤ mK M ∧ u.2 + N ≤ mS M)
    (kk : Z G M d (pc + 2) L (.ref (G.1 + hN α) :: st) (nw α (t, N) (fun _ => 0)) (u.1 + 1, u.2 + N) post) : Z G M d pc L (.int n :: st) α u post := by
  refine Z.goW (fun p l e R s m args below meth c' Q D dA H locs ls C hR hV hl kk => ?_) kk
  obtain ⟨hx, hb, -, hown, hts, hname, hK, -, hos, hroom, -⟩ := C
  subst hty
  refine va_newaK hx hb (hts _ ha) rfl hd rfl hn hN' ?_ (Nat.le_trans hu.1 hroom.2.2.1) (Nat.le_trans hu.2 hroom.2.2.2) hR.1 fun H1 cA e1' z1 o1 hof hfc => ?_
  · rcases ht with ⟨-, h⟩ | ⟨-, h⟩ | ⟨-, h⟩ <;> rw [h] <;> simp only [componentBytes] <;> omega
  refine kk H1 locs (hR.new (by rw [z1, hR.1]) (fun q hq => o1 q (by rw [← hR.1]; exact hq)) ?_) ⟨Nat.le_trans hV.1 (by rw [z1, hR.1]; omega), fun q h1 h2 => (o1 q (by rw [← hR.1]; exact Nat.lt_of_lt_of_le h1 hV.1)).trans (hV.2.1 q h1 h2), hV.2.2⟩
  have h1 : ∀ j, hI (nw α (t, N) (fun _ => 0)) (hN α) j = 0 := fun j => by show u1 α.2.2.1 α.1 (fun _ => 0) α.1 j = 0; rw [u1_s]
  have h2 : ∀ j, hJ (nw α (t, N) (fun _ => 0)) (hN α) j = 0 := fun j => by show u1 α.2.2.2.1 α.1 (fun _ => 0) α.1 j = 0; rw [u1_s]
  unfold zAt
  rw [hS_nw]
  rcases ht with ⟨rfl, h⟩ | ⟨rfl, h⟩ | ⟨rfl, h⟩
  · rw [h] at e1' hfc
    have hA : va_RA s (dA 0) .int := (hK.2 0 _ rfl).2
    cases hfc.symm.trans hA
    show H1[G.1 + hN α]? = some (arrV (dA 0) N (fun j => .int (hI (nw α (0, N) (fun _ => 0)) (hN α) j)))
    rw [e1']
    congr 2
    funext j
    rw [h1]
    rfl
  · rw [h] at e1' hfc
    have hA : va_RA s (dA 1) .long := (hK.2 1 _ rfl).2
    cases hfc.symm.trans hA
    show H1[G.1 + hN α]? = some (arrV (dA 1) N (fun j => .long (hJ (nw α (1, N) (fun _ => 0)) (hN α) j)))
    rw [e1']
    congr 2
    funext j
    rw [h2]
    rfl
  · rw [h] at e1' hfc
    have hA : va_RA s (dA 2) .boolean := (hK.2 2 _ rfl).2
    cases hfc.symm.trans hA
    show H1[G.1 + hN α]? = some (arrV (dA 2) N (fun j => .int (hI (nw α (2, N) (fun _ => 0)) (hN α) j)))
    rw [e1']
    congr 2
    funext j
    rw [h1]
    rfl
/-! what nobody writes -/
def zStt (own : String) (idx i : Nat) : Prop := Cond.fieldLink own idx "DaysBag" (zArr i).1 "[I" ∈ zT ∨ ∃ host, Cond.fieldLinkNest own idx "DaysBag" (zArr i).1 "[I" host ∈ zT
theorem Z_gets {i idx : Nat} (hd : decode (mC M) pc = .ok (.getstatic idx, 3)) (hi : i < 3) (hw : zStt (mY M).cls idx i) (kk : Z G M d (pc + 3) L (.ref (G.2 i) :: st) α u post) : Z G M d pc L st α u post := by
  refine Z.goR (fun p l e R s m args below meth c' Q D dA H locs ls C hR hV hl kk => ?_) kk
  obtain ⟨hx, hb, -, hown, hts, hname, hK, hX, -⟩ := C
  rcases hw with h | ⟨host, h⟩
  · exact va_gets hx hb (hX.1 i hi).1 hV hown (hts _ h) (fun _ h => h) hd kk
  · exact va_getsN hx hb (hX.1 i hi).1 hV hown (hts _ h) (fun _ h => h) hd kk
theorem Z_ti {i : Nat} {k : Int32} (hd : decode (mC M) pc = .ok (.iaload, 1)) (hi : i < 3) (hin : vp_in k (zArr i).2.length) (kk : Z G M d (pc + 1) L (.int ((zArr i).2.getD k.toNatClampNeg 0) :: st) α u post) : Z G M d pc L (.int k :: .ref (G.2 i) :: st) α u post := by
  refine Z.goR (fun p l e R s m args below meth c' Q D dA H locs ls C hR hV hl kk => ?_) kk
  obtain ⟨hx, hb, -, hown, hts, hname, hK, hX, -⟩ := C
  exact va_ti hx hb (hX.1 i hi).2 hV hin rfl hd kk
theorem Z_ldc {idx : Nat} {v : Int32} (hd : decode (mC M) pc = .ok (.ldc idx, 2)) (hw : Cond.constant (mY M).cls idx v ∈ zT) (kk : Z G M d (pc + 2) L (.int v :: st) α u post) : Z G M d pc L st α u post :=
  Z.goR (fun p l e R s m args below meth c' Q D dA H locs ls C hR hV hl kk => lv_ldc C.1 C.2.1 C.2.2.2.1 (C.2.2.2.2.1 _ hw) hd kk) kk
theorem Z_ldc2 {idx : Nat} {v : Int64} (hd : decode (mC M) pc = .ok (.ldc2_w idx, 3)) (hw : Cond.constantLong (mY M).cls idx v ∈ zT) (kk : Z G M d (pc + 3) L (.long v :: st) α u post) : Z G M d pc L st α u post :=
  Z.goR (fun p l e R s m args below meth c' Q D dA H locs ls C hR hV hl kk => lv_ldc2 C.1 C.2.1 C.2.2.2.1 (C.2.2.2.2.1 _ hw) hd kk) kk
theorem Z_ldcS {i idx : Nat} (hd : decode (mC M) pc = .ok (.ldc idx, 2)) (hi : i < 12) (hw : (zStr i).1 = (mY M).cls ∧ (zStr i).2.1 = idx) (kk : Z G M d (pc + 2) L (.ref (G.2 (10 + i)) :: st) α u post) : Z G M d pc L st α u post :=
  Z.goR (fun p l e R s m args below meth c' Q D dA H locs ls C hR hV hl kk => va_ldcS C.1 C.2.1 C.2.2.2.1 (by have := (C.2.2.2.2.2.2.2.1.2.1 i hi).1; rw [hw.1, hw.2] at this; exact this) hd kk) kk
/-! contracts -/
def zRoom (M : ZM) (d : Nat) : Room := { frames := d, cells := mK M, slots := mS M, locals := 64 * d }
def zW (M : ZM) : List Cond := .code (mY M) (mC M) (mL M) (mR M) :: zT
def zPc (G : ZG) (D : va_G) (dA : Nat → ClassId) (av : List Value) (α : AH) : Array Value → State → Prop := va_Pc av (fun U => zR G.1 D dA α U.heap ∧ va_K D vwCl (zTys dA) U ∧ zX G U ∧ G.1 ≤ U.heap.size)
def zQc (G : ZG) (D : va_G) (dA : Nat → ClassId) (post : Option Value → AH → Prop) : Array Value → State → Outcome → State → Prop := fun _ st oc t => (∃ (v : Option Value) (α : AH), oc = .returned v ∧ post v α ∧ zR G.1 D dA α t.heap) ∧ va_F (zA G.1) st t
/-- the method M, called with av over α within d frames more, returns with post -/
def ZK (G : ZG) (d : Nat) (M : ZM) (av : List Value) (α : AH) (post : Option Value → AH → Prop) : Prop := ∀ (l : Launch) (D : va_G) (dA : Nat → ClassId), Met l (mY M) (zW M) (zRoom M d) (zPc G D dA av α) (zQc G D dA post) (mK M) (mS M) (zA G.1)
def zargs : List Value → List (Option Value)
  | [] => []
  | v :: r => if v.category = 2 then some v :: none :: zargs r else some v :: zargs r
theorem zargs_in : ∀ (av : List Value) (i j : Nat) (v : Value), (zargs av)[j]? = some (some v) → (i + j, v) ∈ lv_args i av
  | [], i, j, v, h => by simp [zargs] at h
  | w :: r, i, j, v, h => by
    unfold zargs at h
    unfold lv_args
    split at h
    · rename_i hc
      rw [if_pos hc]
      match j, h with
      | 0, h => simp at h; rw [h]; exact List.mem_cons_self
      | 1, h => simp at h
      | j + 2, h =>
        have h' : (zargs r)[j]? = some (some v) := by simpa using h
        have := zargs_in r (i + 2) j v h'
        rw [show i + 2 + j = i + (j + 2) by omega] at this
        exact List.mem_cons_of_mem _ this
    · rename_i hc
      rw [if_neg hc]
      match j, h with
      | 0, h => simp at h; rw [h]; exact List.mem_cons_self
      | j + 1, h =>
        have h' : (zargs r)[j]? = some (some v) := by simpa using h
        have := zargs_in r (i + 1) j v h'
        rw [show i + 1 + j = i + (j + 1) by omega] at this
        exact List.mem_cons_of_mem _ this
theorem zX.same {G : ZG} {s U : State} (h : zX G s) (hv : U.vm = s.vm) (hh : U.heap = s.heap) : zX G U := by
  have hA : s.vm.Alike U.vm := by rw [hv]; exact Vm.Alike.refl _
  have hq : ∀ a : Nat, a < s.heap.size → ¬ zA G.1 a → U.heap[a]? = s.heap[a]? := fun a _ _ => by rw [hh]
  obtain ⟨h1, h2, h3⟩ := h
  refine ⟨fun i hi => ⟨((h1 i hi).1.moved hA).kept hq, ((h1 i hi).2.moved hA).kept hq⟩, fun i hi => ?_, (h3.moved hA).kept hq⟩
  obtain ⟨g1, g2, g3, g4, g5⟩ := h2 i hi
  exact ⟨g1.same hv, (va_O.moved hA g2).kept hq, (va_OF.moved hA g3).kept hq, (va_OF.moved hA g4).kept hq, (va_T.moved hA g5).kept hq⟩
theorem zPc_blind {D : va_G} {dA : Nat → ClassId} {av : List Value} : FrameBlind (zPc G D dA av α) := fun _ U _ _ h => ⟨h.1, h.2.1, va_K.moved (u := U) (Vm.Alike.refl U.vm) h.2.2.1, h.2.2.2.1.same rfl rfl, h.2.2.2.2⟩
/-- a contract out of the walk from the method's entry -/
theorem ZK.of {av : List Value} {n : Nat} (hy : plainName (mY M).cls = true) (hn : (lg_sl av).length ≤ mL M) (hL : zargs av ++ List.replicate n none = L) (k : Z G M d 0 L [] α (0, 0) post) : ZK G d M av α post := by
  intro l D dA
  refine Met.ofW (cc := mC M) (maxL := mL M) (ret := mR M) hy rfl ?_
  intro p e s m args below meth c s₁ B hml hv
  obtain ⟨rfl, hR, hK, hX, ho⟩ := hv
  have hx := B.exec
  have hb := B.bytes
  have hr := B.returns
  have hts0 := atoms_spec (ws := zW M) B.pre
  have hts : ∀ w ∈ zT, w.before av.toArray s = true := fun w h => hts0 w (List.mem_cons_of_mem _ h)
  have hown : s.vm.findClass (mY M).cls = some m.cls := findClass_of_methodNamed B.named
  have hlocks := B.notSynchronized
  have hnm : meth.name = (mY M).name := (name_of_methodNamed B.named B.method).1
  have hl := lv_entry av (n := mL M) hn
  rw [lg_entry_eq]
  generalize (lg_sl av ++ List.replicate (mL M - (lg_sl av).length) Slot.unset).toArray = ls at hl ⊢
  have hS : va_S (zA G.1) s.heap s.heap [] := va_S.rf
  have hzl : zL ls (mL M) L := by
    refine zL.of hl (fun i v h => ?_)
    rw [← hL, List.getElem?_append] at h
    split at h
    · have := zargs_in av 0 i v h
      rwa [Nat.zero_add] at this
    · rw [List.getElem?_replicate] at h
      split at h <;> cases h
  refine k p l e (headSpec (zW M) (zRoom M d)).room s m av.toArray below meth c _ D dA ⟨hx, hb, hml, hown, hts, hnm, hK, hX, ho, ⟨Nat.le_refl _, Nat.le_refl _, Nat.le_refl _, Nat.le_refl _⟩, ?_⟩ s.heap [] ls hR hS hzl
  intro v β H locs cells slots pc ls' hp hRβ hSβ hc1 hc2 hret
  refine W.widen (k := mK M) (n := mS M) hc1 hc2 ?_
  have hq : ∀ t : State, t.heap = H → s.WarmedH t.vm → zQc G D dA post av.toArray s (.returned v) t := fun t ht _ => ⟨⟨v, β, rfl, hp, by rw [ht]; exact hRβ⟩, hSβ.F ht⟩
  rcases hret with ⟨x, ty, rfl, h1, h2, h3⟩ | ⟨x, rfl, h1, h3⟩ | ⟨r, rt, rfl, h0, h1, h2, h3⟩ | ⟨rfl, h1, h3⟩
  · exact W.zret hx hb (hr.trans h1) h2 hq hSβ.2.2 h3
  · exact W.lret hx hb (hr.trans h1) hq hSβ.2.2 h3
  · exact W.aret hx hb (hr.trans h1) h2 h0 hq hSβ.2.2 h3
  · exact W.vret hx hb (hr.trans h1) hq hSβ.2.2 h3
/-- a contract's end may be weakened -/
theorem ZK.mono {av : List Value} {post' : Option Value → AH → Prop} (h : ZK G d M av α post) (hp : ∀ v β, post v β → post' v β) : ZK G d M av α post' := by
  intro l D dA
  exact MetFree.mono (h l D dA) (fun _ _ h => h) (fun _ _ _ _ _ h => h) (fun _ _ _ _ _ ⟨⟨⟨v, β, e1, e2, e3⟩, e4⟩, e5⟩ => ⟨⟨⟨v, β, e1, hp v β e2, e3⟩, e4⟩, e5⟩)
end ZR3
end
section
section ZR4
variable {G : ZG} {M M' : ZM} {d pc pc' n : Nat} {L L' : List (Option Value)} {st st' : List Value} {α α' : AH} {u u' : Nat × Nat} {post : Option Value → AH → Prop}
def zst : Option Value → List Value → List Value
  | none, st => st
  | some v, st => v :: st
theorem zst_eq (v : Option Value) (st : List Value) : v.toList ++ st = zst v st := by cases v <;> rfl
/-- what every call of M' needs: its code, its class, its parameters -/
def zTo (M' : ZM) (n : Nat) : Prop := Cond.code (mY M') (mC M') (mL M') (mR M') ∈ zT ∧ Cond.initialized (mY M').cls ∈ zT ∧ ((mY M').cls ≠ "java/lang/invoke/MethodHandle" ∧ (mY M').cls ≠ "java/lang/invoke/VarHandle") ∧ (parseMethodDescriptor (mY M').desc).map (fun d => d.parameters.length) = some n ∧ mL M' ≤ 45
def zLk (own : String) (idx : Nat) (y : MethodName) : Prop := Cond.methodLink own idx y ∈ zT ∨ ∃ host, Cond.methodLinkNest own idx y host ∈ zT
theorem zW_good (h : zTo M' n) : GoodIn zT (zW M') := fun w hw => (List.mem_cons.mp hw).elim (fun e => by subst e; exact ⟨h.1, zT_good _ h.1⟩) (fun h => ⟨h, zT_good _ h⟩)
theorem zNw {s : State} {args : Array Value} {w : Cond} (hw : w.onTables = true) (h : w.before args s = true) : va_Nw w s := va_tabs hw rfl h
/-- behind a call -/
theorem z_call {p : Program} {l : Launch} {e : Env} {R : Room} {s : State} {m : MethodId} {args : Array Value} {below : List Frame} {meth : Method} {c : Code} {H H0 : Heap} {locs : List Loc} {cells slots mc ms : Nat} {Q : State → Prop} {D : va_G} {dA : Nat → ClassId} {ls : Array Slot} {st0 rest : List Value} {a : Array Value} {post' : Option Value → AH → Prop}
    (hr : va_Run p l e R s m args below meth c H locs cells slots mc ms (F0 m pc ls st0) rest (zQc G D dA post' a) (zA G.1)) (hS : va_S (zA G.1) H0 H locs)
    (kk : ∀ (v : Option Value) (β : AH) (H1 : Heap) (locs1 : List Loc), post' v β → zR G.1 D dA β H1 → va_S (zA G.1) H0 H1 locs1 → W p l e R s m args below meth c H1 locs1 (cells + mc) (slots + ms) Q (F0 m (pc + 3) ls (zst v rest))) : W p l e R s m args below meth c H locs cells slots Q (F0 m pc ls st0) := by
  intro T hT X
  obtain ⟨v0, st₀, t, T', L, h0, X', hL, e1, e2, ⟨⟨v, β, hv, hp, hRβ⟩, hz, hk⟩, stp⟩ := hr T hT X
  cases hv
  rw [h0] at hz hk
  obtain ⟨t2, a1, b1⟩ := kk v0 β T'.heap (locs ++ L) hp (by rw [e1]; exact hRβ)
    ⟨Nat.le_trans hS.1 (by rw [e1]; exact hz), fun q h1 h2 => by rw [e1, hk q (Nat.lt_of_lt_of_le h1 hS.1) h2]; exact hS.2.1 q h1 h2, fun q hq => by
      rcases List.mem_append.mp hq with h | h
      · exact hS.2.2 q h
      · exact hL q h⟩ T' rfl X'
  rw [← zst_eq] at a1
  exact ⟨t2, stp t2 a1, b1⟩
theorem zPre {p : Program} {l : Launch} {e : Env} {R : Room} {s : State} {m : MethodId} {args : Array Value} {below : List Frame} {meth : Method} {c : Code} {Q : State → Prop} {D : va_G} {dA : Nat → ClassId} {H : Heap} {locs : List Loc} {av : List Value} (C : ZC G M d post p l e R s m args below meth c Q D dA) (hR : zR G.1 D dA α H) (hV : va_S (zA G.1) s.heap H locs) : PreS s H (zPc G D dA av α) av := by
  refine ⟨zPc_blind, fun U hU hW => ⟨rfl, by rw [hU]; exact hR, va_K.moved hW.alike C.2.2.2.2.2.2.1, C.2.2.2.2.2.2.2.1.to hW (fun a h1 h2 => by rw [hU]; exact hV.2.1 a h1 h2), ?_⟩⟩
  rw [hU]
  exact Nat.le_trans C.2.2.2.2.2.2.2.2.1 hV.1
theorem zrecv {p : Program} {l : Launch} {e : Env} {R : Room} {s : State} {m : MethodId} {args : Array Value} {below : List Frame} {meth : Method} {c : Code} {Q : State → Prop} {D : va_G} {dA : Nat → ClassId} {H : Heap} {k ci z : Nat} {q : vw_C} (C : ZC G M d post p l e R s m args below meth c Q D dA) (hR : zR G.1 D dA α H) (hs : zIs α k (ci + 4, z)) (hq : vwCl[ci]? = some q) : ∃ cellB : Cell, H[G.1 + k]? = some cellB ∧ cellB.vm.isStatics = false ∧ s.vm.findClass q.1 = some cellB.cls := by
  obtain ⟨cell, q1, q2, q3, q4⟩ := (hR.2 k hs.1).o hs.2
  exact ⟨cell, q1, by rw [q3]; rfl, by rw [q2]; exact (C.2.2.2.2.2.2.1.1 ci _ hq).2.1⟩
theorem zroom {R : Room} (h : d + 1 ≤ R.frames ∧ 64 * (d + 1) ≤ R.locals ∧ mK M ≤ R.cells ∧ mS M ≤ R.slots) (hm : mL M' ≤ 45) : (zRoom M' d).frames + 1 ≤ R.frames ∧ 8 + (mL M' + 11) + (zRoom M' d).locals ≤ R.locals := by
  refine ⟨h.1, ?_⟩
  have := h.2.1
  show 8 + (mL M' + 11) + 64 * d ≤ R.locals
  omega
theorem zlen {desc : String} (h : (parseMethodDescriptor desc).map (fun d => d.parameters.length) = some n) : ∀ sig, parseMethodDescriptor desc = some sig → n = sig.parameters.length := fun sig e => by
  rw [e] at h
  exact (Option.some.inj h).symm
theorem Z_runS {idx : Nat} {av st0 : List Value} (hd : decode (mC M) pc = .ok (.invokestatic idx, 3)) (to : zTo M' n) (lk : zLk (mY M).cls idx (mY M')) (hs : Cond.static (mY M') ∈ zT) (hn : av.length = n) (hst : (st.map fun v => v.category).sum ≤ 8) (hu : u.1 + mK M' ≤ mK M ∧ u.2 + mS M' ≤ mS M) (hstk : st0 = av.reverse ++ st)
    (h : ZK G d M' av α (fun v α1 => Z G M (d + 1) (pc + 3) L (zst v st) α1 (u.1 + mK M', u.2 + mS M') post)) : Z G M (d + 1) pc L st0 α u post := by
  subst hstk
  intro p l e R s m args below meth c Q D dA C H locs ls hR hV hl
  have C' := C
  obtain ⟨hx, hb, hml, hown, hts, hname, hK, hX, hos, hroom, -⟩ := C'
  have hfix : CallFix p m c (mC M) (mL M) s args zT (mY M).cls := ⟨hx, hb, hml, hown, hts⟩
  have hf : u.1 + mK M' ≤ R.cells ∧ u.2 + mS M' ≤ R.slots := ⟨Nat.le_trans hu.1 hroom.2.2.1, Nat.le_trans hu.2 hroom.2.2.2⟩
  obtain ⟨t1, t2, t3, t4, t5⟩ := to
  rcases lk with lk | ⟨host, lk⟩
  · refine z_call (va_runS (g := F0 m pc ls (av.reverse ++ st)) hfix (h l D dA) ⟨callB_of n hts (zW_good ⟨t1, t2, t3, t4, t5⟩) rfl rfl rfl (hts _ t2) (hts _ lk) ⟨t3.1, t3.2, t4⟩ (zroom hroom t5), hts _ hs⟩ (zPre C hR hV) rfl hn hl.1 rfl (lv_room hst) hd hf) hV (fun v β H1 locs1 hp hR1 hV1 => ?_)
    exact hp p l e R s m args below meth c Q D dA C H1 locs1 ls hR1 hV1 hl
  · refine z_call (va_runSN (g := F0 m pc ls (av.reverse ++ st)) hfix (h l D dA) ⟨va_cnB n hts (zW_good ⟨t1, t2, t3, t4, t5⟩) rfl rfl rfl (zNw rfl (hts _ lk)) (hts _ t2) ⟨t3.1, t3.2, t4⟩ (zroom hroom t5), hts _ hs, trivial⟩ (zPre C hR hV) rfl hn hl.1 rfl (lv_room hst) hd hf) hV (fun v β H1 locs1 hp hR1 hV1 => ?_)
    exact hp p l e R s m args below meth c Q D dA C H1 locs1 ls hR1 hV1 hl
theorem Z_runV {idx k ci z : Nat} {q : vw_C} {av st0 : List Value} (hd : decode (mC M) pc = .ok (.invokevirtual idx, 3)) (to : zTo M' n) (lk : zLk (mY M).cls idx (mY M')) (hi : Cond.instanceMethod (mY M') ∈ zT) (hse : Cond.selects (mY M').cls (mY M') (mY M') ∈ zT) (hq : vwCl[ci]? = some q ∧ q.1 = (mY M').cls) (hk : zIs α k (ci + 4, z)) (hn : av.length = n) (hst : (st.map fun v => v.category).sum ≤ 8) (hu : u.1 + mK M' ≤ mK M ∧ u.2 + mS M' ≤ mS M) (hstk : st0 = av.reverse ++ .ref (G.1 + k) :: st)
    (h : ZK G d M' (.ref (G.1 + k) :: av) α (fun v α1 => Z G M (d + 1) (pc + 3) L (zst v st) α1 (u.1 + mK M', u.2 + mS M') post)) : Z G M (d + 1) pc L st0 α u post := by
  subst hstk
  intro p l e R s m args below meth c Q D dA C H locs ls hR hV hl
  have C' := C
  obtain ⟨hx, hb, hml, hown, hts, hname, hK, hX, hos, hroom, -⟩ := C'
  have hfix : CallFix p m c (mC M) (mL M) s args zT (mY M).cls := ⟨hx, hb, hml, hown, hts⟩
  have hf : u.1 + mK M' ≤ R.cells ∧ u.2 + mS M' ≤ R.slots := ⟨Nat.le_trans hu.1 hroom.2.2.1, Nat.le_trans hu.2 hroom.2.2.2⟩
  obtain ⟨t1, t2, t3, t4, t5⟩ := to
  have hrec := zrecv C hR hk hq.1
  rw [hq.2] at hrec
  rcases lk with lk | ⟨host, lk⟩
  · refine z_call (va_runV (C := (mY M').cls) (g := F0 m pc ls (av.reverse ++ .ref (G.1 + k) :: st)) hfix (h l D dA) ⟨callB_of n hts (zW_good ⟨t1, t2, t3, t4, t5⟩) rfl rfl rfl (hts _ t2) (hts _ lk) ⟨t3.1, t3.2, t4⟩ (zroom hroom t5), hts _ hi, hts _ hse⟩ ⟨(zPre C hR hV).1, hrec, (zPre C hR hV).2⟩ rfl hn hl.1 rfl (lv_room hst) hd hf) hV (fun v β H1 locs1 hp hR1 hV1 => ?_)
    exact hp p l e R s m args below meth c Q D dA C H1 locs1 ls hR1 hV1 hl
  · refine z_call (va_runVN (C := (mY M').cls) (g := F0 m pc ls (av.reverse ++ .ref (G.1 + k) :: st)) hfix (h l D dA) ⟨va_cnB n hts (zW_good ⟨t1, t2, t3, t4, t5⟩) rfl rfl rfl (zNw rfl (hts _ lk)) (hts _ t2) ⟨t3.1, t3.2, t4⟩ (zroom hroom t5), hts _ hi, hts _ hse⟩ ⟨(zPre C hR hV).1, hrec, (zPre C hR hV).2⟩ rfl hn hl.1 rfl (lv_room hst) hd hf) hV (fun v β H1 locs1 hp hR1 hV1 => ?_)
    exact hp p l e R s m args below meth c Q D dA C H1 locs1 ls hR1 hV1 hl
theorem Z_runI {idx k : Nat} {av st0 : List Value} (hd : decode (mC M) pc = .ok (.invokespecial idx, 3)) (to : zTo M' n) (lk : zLk (mY M).cls idx (mY M')) (hi : Cond.instanceMethod (mY M') ∈ zT) (hy : (mY M').name = "<init>" ∧ mR M' = none) (hn : av.length = n) (hst : (st.map fun v => v.category).sum ≤ 8) (hu : u.1 + mK M' ≤ mK M ∧ u.2 + mS M' ≤ mS M) (hstk : st0 = av.reverse ++ .ref (G.1 + k) :: st)
    (h : ZK G d M' (.ref (G.1 + k) :: av) α (fun v α1 => Z G M (d + 1) (pc + 3) L (zst v st) α1 (u.1 + mK M', u.2 + mS M') post)) : Z G M (d + 1) pc L st0 α u post := by
  subst hstk
  intro p l e R s m args below meth c Q D dA C H locs ls hR hV hl
  have C' := C
  obtain ⟨hx, hb, hml, hown, hts, hname, hK, hX, hos, hroom, -⟩ := C'
  have hfix : CallFix p m c (mC M) (mL M) s args zT (mY M).cls := ⟨hx, hb, hml, hown, hts⟩
  have hf : u.1 + mK M' ≤ R.cells ∧ u.2 + mS M' ≤ R.slots := ⟨Nat.le_trans hu.1 hroom.2.2.1, Nat.le_trans hu.2 hroom.2.2.2⟩
  obtain ⟨t1, t2, t3, t4, t5⟩ := to
  have hw : zW M' = Cond.code (mY M') (mC M') (mL M') none :: zT := by unfold zW; rw [hy.2]
  rcases lk with lk | ⟨host, lk⟩
  · refine z_call (va_runI (bytes := mC M') (maxL := mL M') (g := F0 m pc ls (av.reverse ++ .ref (G.1 + k) :: st)) hfix (h l D dA) ⟨callB_of n hts (zW_good ⟨t1, t2, t3, t4, t5⟩) hw rfl rfl (hts _ t2) (hts _ lk) ⟨t3.1, t3.2, t4⟩ (zroom hroom t5), hy.1, hts _ hi⟩ (zPre C hR hV) rfl hn hl.1 rfl (lv_room hst) hd hf) hV (fun v β H1 locs1 hp hR1 hV1 => ?_)
    exact hp p l e R s m args below meth c Q D dA C H1 locs1 ls hR1 hV1 hl
  · refine z_call (va_runIN (bytes := mC M') (maxL := mL M') (g := F0 m pc ls (av.reverse ++ .ref (G.1 + k) :: st)) hfix (h l D dA) ⟨va_cnB n hts (zW_good ⟨t1, t2, t3, t4, t5⟩) hw rfl rfl (zNw rfl (hts _ lk)) (hts _ t2) ⟨t3.1, t3.2, t4⟩ (zroom hroom t5), hy.1, hts _ hi⟩ (zPre C hR hV) rfl hn hl.1 rfl (lv_room hst) hd hf) hV (fun v β H1 locs1 hp hR1 hV1 => ?_)
    exact hp p l e R s m args below meth c Q D dA C H1 locs1 ls hR1 hV1 hl
/-- a call that is dispatched: x is what the instruction names, M' what the receiver's class C selects -/
theorem Z_runU {idx k ci z : Nat} {x : MethodName} {owner : String} {q : vw_C} {av st0 : List Value} {b0 : ByteArray} {m0 : Nat} {r0 : Option FieldType} (hd : decode (mC M) pc = .ok (.invokevirtual idx, 3)) (to : zTo M' n) (lk : Cond.methodLink (mY M).cls idx x ∈ zT) (hsm : Cond.sameMethod x.cls owner x.name x.desc ∈ zT) (hdc : Cond.instanceMethod ⟨owner, x.name, x.desc⟩ ∈ zT ∧ Cond.code ⟨owner, x.name, x.desc⟩ b0 m0 r0 ∈ zT) (ho : owner ≠ "java/lang/invoke/MethodHandle" ∧ owner ≠ "java/lang/invoke/VarHandle" ∧ x.desc = (mY M').desc) (hq : vwCl[ci]? = some q) (hse : Cond.selects q.1 x (mY M') ∈ zT) (hi : Cond.instanceMethod (mY M') ∈ zT) (hk : zIs α k (ci + 4, z)) (hn : av.length = n) (hst : (st.map fun v => v.category).sum ≤ 8) (hu : u.1 + mK M' ≤ mK M ∧ u.2 + mS M' ≤ mS M) (hstk : st0 = av.reverse ++ .ref (G.1 + k) :: st)
    (h : ZK G d M' (.ref (G.1 + k) :: av) α (fun v α1 => Z G M (d + 1) (pc + 3) L (zst v st) α1 (u.1 + mK M', u.2 + mS M') post)) : Z G M (d + 1) pc L st0 α u post := by
  subst hstk
  intro p l e R s m args below meth c Q D dA C H locs ls hR hV hl
  have C' := C
  obtain ⟨hx, hb, hml, hown, hts, hname, hK, hX, hos, hroom, -⟩ := C'
  have hfix : CallFix p m c (mC M) (mL M) s args zT (mY M).cls := ⟨hx, hb, hml, hown, hts⟩
  have hf : u.1 + mK M' ≤ R.cells ∧ u.2 + mS M' ≤ R.slots := ⟨Nat.le_trans hu.1 hroom.2.2.1, Nat.le_trans hu.2 hroom.2.2.2⟩
  have hG := zW_good to
  obtain ⟨t1, t2, t3, t4, t5⟩ := to
  have hrec := zrecv C hR hk hq
  have hcu : va_CU R s args (mY M).cls q.1 owner idx x (mY M') (mC M') (mL M') (mR M') (zW M') (zRoom M' d) (mK M') (mS M') n :=
    ⟨⟨rfl, rfl, (zroom hroom t5).1, (zroom hroom t5).2, pay_in hts hG, List.mem_cons_self⟩, hts _ t1, hts _ t2, ⟨ho.1, ho.2.1⟩, zlen (by rw [ho.2.2]; exact t4), hts _ lk, hts _ hsm, va_Decl.of (hts _ hdc.1) (hts _ hdc.2), hts _ hse, hts _ hi⟩
  refine z_call (va_runU (C := q.1) (g := F0 m pc ls (av.reverse ++ .ref (G.1 + k) :: st)) hfix (h l D dA) hcu ⟨(zPre C hR hV).1, hrec, (zPre C hR hV).2⟩ rfl hn hl.1 rfl (lv_room hst) hd hf) hV (fun v β H1 locs1 hp hR1 hV1 => ?_)
  exact hp p l e R s m args below meth c Q D dA C H1 locs1 ls hR1 hV1 hl
/-- super.m(..) -/
theorem Z_runSU {idx k ci z : Nat} {q : vw_C} {av st0 : List Value} (hd : decode (mC M) pc = .ok (.invokespecial idx, 3)) (to : zTo M' n) (lk : Cond.methodLink (mY M).cls idx (mY M') ∈ zT) (hsm : Cond.sameMethod (mY M').cls (mY M').cls (mY M').name (mY M').desc ∈ zT) (hsup : Cond.superclass (mY M).cls (mY M').cls ∈ zT) (hi : Cond.instanceMethod (mY M') ∈ zT) (hy : (mY M').name ≠ "<init>") (hq : vwCl[ci]? = some q) (hk : zIs α k (ci + 4, z)) (hn : av.length = n) (hst : (st.map fun v => v.category).sum ≤ 8) (hu : u.1 + mK M' ≤ mK M ∧ u.2 + mS M' ≤ mS M) (hstk : st0 = av.reverse ++ .ref (G.1 + k) :: st)
    (h : ZK G d M' (.ref (G.1 + k) :: av) α (fun v α1 => Z G M (d + 1) (pc + 3) L (zst v st) α1 (u.1 + mK M', u.2 + mS M') post)) : Z G M (d + 1) pc L st0 α u post := by
  subst hstk
  intro p l e R s m args below meth c Q D dA C H locs ls hR hV hl
  have C' := C
  obtain ⟨hx, hb, hml, hown, hts, hname, hK, hX, hos, hroom, -⟩ := C'
  have hfix : CallFix p m c (mC M) (mL M) s args zT (mY M).cls := ⟨hx, hb, hml, hown, hts⟩
  have hf : u.1 + mK M' ≤ R.cells ∧ u.2 + mS M' ≤ R.slots := ⟨Nat.le_trans hu.1 hroom.2.2.1, Nat.le_trans hu.2 hroom.2.2.2⟩
  have hG := zW_good to
  obtain ⟨t1, t2, t3, t4, t5⟩ := to
  have hrec := zrecv C hR hk hq
  have hcs : va_CS R s args (mY M).cls idx (mY M') (mC M') (mL M') (mR M') (zW M') (zRoom M' d) (mK M') (mS M') n :=
    ⟨⟨rfl, rfl, (zroom hroom t5).1, (zroom hroom t5).2, pay_in hts hG, List.mem_cons_self⟩, hts _ lk, hts _ hsm, hts _ hsup, hts _ hi, hts _ t2, hts _ t1, hy, zlen t4⟩
  refine z_call (va_runSU (C := q.1) (hK.1 ci _ hq).2 (g := F0 m pc ls (av.reverse ++ .ref (G.1 + k) :: st)) hfix (h l D dA) hcs ⟨(zPre C hR hV).1, hrec, (zPre C hR hV).2⟩ rfl hn hl.1 rfl (lv_room hst) hd hf) hV (fun v β H1 locs1 hp hR1 hV1 => ?_)
  exact hp p l e R s m args below meth c Q D dA C H1 locs1 ls hR1 hV1 hl
/-- Object's constructor -/
theorem Z_obj {idx : Nat} {a : Nat} (hd : decode (mC M) pc = .ok (.invokespecial idx, 3)) (hw : Cond.methodLink (mY M).cls idx Lib.objectInit ∈ zT ∧ Cond.instanceMethod Lib.objectInit ∈ zT ∧ Cond.code Lib.objectInit ⟨#[0xb1]⟩ 1 none ∈ zT) (hst : (st.map fun v => v.category).sum ≤ 8) (k : Z G M (d + 1) (pc + 3) L st α u post) : Z G M (d + 1) pc L (.ref a :: st) α u post := by
  refine Z.goR (fun p l e R s m args below meth c' Q D dA H locs ls C hR hV hl kk => ?_) k
  obtain ⟨hx, hb, hml, hown, hts, hname, hK, hX, hos, hroom, -⟩ := C
  refine W.objInit hx hb hown (hts _ hw.1) (hts _ hw.2.1) (hts _ hw.2.2) rfl (by rw [hml]; exact hl) rfl hd (Nat.le_trans (Nat.le_add_left _ _) hroom.1) ?_ kk
  have h1 := lv_room (m := m) (pc := pc) (ls := ls) (rest := .ref a :: st) hst
  have h2 := hroom.2.1
  omega
theorem Z_S0 {idx : Nat} (hd : decode (mC M) pc = .ok (.invokestatic idx, 3)) (to : zTo M' 0) (lk : zLk (mY M).cls idx (mY M')) (hs : Cond.static (mY M') ∈ zT) (hst : (st.map fun v => v.category).sum ≤ 8) (hu : u.1 + mK M' ≤ mK M ∧ u.2 + mS M' ≤ mS M) (h : ZK G d M' [] α (fun v α1 => Z G M (d + 1) (pc + 3) L (zst v st) α1 (u.1 + mK M', u.2 + mS M') post)) : Z G M (d + 1) pc L (st) α u post := Z_runS hd to lk hs rfl hst hu rfl h
theorem Z_V0 {idx k ci z : Nat} {q : vw_C} (hd : decode (mC M) pc = .ok (.invokevirtual idx, 3)) (to : zTo M' 0) (lk : zLk (mY M).cls idx (mY M')) (hi : Cond.instanceMethod (mY M') ∈ zT ∧ Cond.selects (mY M').cls (mY M') (mY M') ∈ zT) (hq : vwCl[ci]? = some q ∧ q.1 = (mY M').cls) (hk : zIs α k (ci + 4, z)) (hst : (st.map fun v => v.category).sum ≤ 8) (hu : u.1 + mK M' ≤ mK M ∧ u.2 + mS M' ≤ mS M) (h : ZK G d M' (.ref (G.1 + k) :: []) α (fun v α1 => Z G M (d + 1) (pc + 3) L (zst v st) α1 (u.1 + mK M', u.2 + mS M') post)) : Z G M (d + 1) pc L (.ref (G.1 + k) :: st) α u post := Z_runV hd to lk hi.1 hi.2 hq hk rfl hst hu rfl h
theorem Z_I0 {idx k : Nat} (hd : decode (mC M) pc = .ok (.invokespecial idx, 3)) (to : zTo M' 0) (lk : zLk (mY M).cls idx (mY M')) (hi : Cond.instanceMethod (mY M') ∈ zT) (hy : (mY M').name = "<init>" ∧ mR M' = none) (hst : (st.map fun v => v.category).sum ≤ 8) (hu : u.1 + mK M' ≤ mK M ∧ u.2 + mS M' ≤ mS M) (h : ZK G d M' (.ref (G.1 + k) :: []) α (fun v α1 => Z G M (d + 1) (pc + 3) L (zst v st) α1 (u.1 + mK M', u.2 + mS M') post)) : Z G M (d + 1) pc L (.ref (G.1 + k) :: st) α u post := Z_runI hd to lk hi hy rfl hst hu rfl h
theorem Z_S1 {idx : Nat} {a1 : Value} (hd : decode (mC M) pc = .ok (.invokestatic idx, 3)) (to : zTo M' 1) (lk : zLk (mY M).cls idx (mY M')) (hs : Cond.static (mY M') ∈ zT) (hst : (st.map fun v => v.category).sum ≤ 8) (hu : u.1 + mK M' ≤ mK M ∧ u.2 + mS M' ≤ mS M) (h : ZK G d M' [a1] α (fun v α1 => Z G M (d + 1) (pc + 3) L (zst v st) α1 (u.1 + mK M', u.2 + mS M') post)) : Z G M (d + 1) pc L (a1 :: st) α u post := Z_runS hd to lk hs rfl hst hu rfl h
theorem Z_V1 {idx k ci z : Nat} {q : vw_C} {a1 : Value} (hd : decode (mC M) pc = .ok (.invokevirtual idx, 3)) (to : zTo M' 1) (lk : zLk (mY M).cls idx (mY M')) (hi : Cond.instanceMethod (mY M') ∈ zT ∧ Cond.selects (mY M').cls (mY M') (mY M') ∈ zT) (hq : vwCl[ci]? = some q ∧ q.1 = (mY M').cls) (hk : zIs α k (ci + 4, z)) (hst : (st.map fun v => v.category).sum ≤ 8) (hu : u.1 + mK M' ≤ mK M ∧ u.2 + mS M' ≤ mS M) (h : ZK G d M' (.ref (G.1 + k) :: [a1]) α (fun v α1 => Z G M (d + 1) (pc + 3) L (zst v st) α1 (u.1 + mK M', u.2 + mS M') post)) : Z G M (d + 1) pc L (a1 :: .ref (G.1 + k) :: st) α u post := Z_runV hd to lk hi.1 hi.2 hq hk rfl hst hu rfl h
theorem Z_I1 {idx k : Nat} {a1 : Value} (hd : decode (mC M) pc = .ok (.invokespecial idx, 3)) (to : zTo M' 1) (lk : zLk (mY M).cls idx (mY M')) (hi : Cond.instanceMethod (mY M') ∈ zT) (hy : (mY M').name = "<init>" ∧ mR M' = none) (hst : (st.map fun v => v.category).sum ≤ 8) (hu : u.1 + mK M' ≤ mK M ∧ u.2 + mS M' ≤ mS M) (h : ZK G d M' (.ref (G.1 + k) :: [a1]) α (fun v α1 => Z G M (d + 1) (pc + 3) L (zst v st) α1 (u.1 + mK M', u.2 + mS M') post)) : Z G M (d + 1) pc L (a1 :: .ref (G.1 + k) :: st) α u post := Z_runI hd to lk hi hy rfl hst hu rfl h
theorem Z_S2 {idx : Nat} {a1 a2 : Value} (hd : decode (mC M) pc = .ok (.invokestatic idx, 3)) (to : zTo M' 2) (lk : zLk (mY M).cls idx (mY M')) (hs : Cond.static (mY M') ∈ zT) (hst : (st.map fun v => v.category).sum ≤ 8) (hu : u.1 + mK M' ≤ mK M ∧ u.2 + mS M' ≤ mS M) (h : ZK G d M' [a1, a2] α (fun v α1 => Z G M (d + 1) (pc + 3) L (zst v st) α1 (u.1 + mK M', u.2 + mS M') post)) : Z G M (d + 1) pc L (a2 :: a1 :: st) α u post := Z_runS hd to lk hs rfl hst hu rfl h
theorem Z_V2 {idx k ci z : Nat} {q : vw_C} {a1 a2 : Value} (hd : decode (mC M) pc = .ok (.invokevirtual idx, 3)) (to : zTo M' 2) (lk : zLk (mY M).cls idx (mY M')) (hi : Cond.instanceMethod (mY M') ∈ zT ∧ Cond.selects (mY M').cls (mY M') (mY M') ∈ zT) (hq : vwCl[ci]? = some q ∧ q.1 = (mY M').cls) (hk : zIs α k (ci + 4, z)) (hst : (st.map fun v => v.category).sum ≤ 8) (hu : u.1 + mK M' ≤ mK M ∧ u.2 + mS M' ≤ mS M) (h : ZK G d M' (.ref (G.1 + k) :: [a1, a2]) α (fun v α1 => Z G M (d + 1) (pc + 3) L (zst v st) α1 (u.1 + mK M', u.2 + mS M') post)) : Z G M (d + 1) pc L (a2 :: a1 :: .ref (G.1 + k) :: st) α u post := Z_runV hd to lk hi.1 hi.2 hq hk rfl hst hu rfl h
theorem Z_I2 {idx k : Nat} {a1 a2 : Value} (hd : decode (mC M) pc = .ok (.invokespecial idx, 3)) (to : zTo M' 2) (lk : zLk (mY M).cls idx (mY M')) (hi : Cond.instanceMethod (mY M') ∈ zT) (hy : (mY M').name = "<init>" ∧ mR M' = none) (hst : (st.map fun v => v.category).sum ≤ 8) (hu : u.1 + mK M' ≤ mK M ∧ u.2 + mS M' ≤ mS M) (h : ZK G d M' (.ref (G.1 + k) :: [a1, a2]) α (fun v α1 => Z G M (d + 1) (pc + 3) L (zst v st) α1 (u.1 + mK M', u.2 + mS M') post)) : Z G M (d + 1) pc L (a2 :: a1 :: .ref (G.1 + k) :: st) α u post := Z_runI hd to lk hi hy rfl hst hu rfl h
theorem Z_S3 {idx : Nat} {a1 a2 a3 : Value} (hd : decode (mC M) pc = .ok (.invokestatic idx, 3)) (to : zTo M' 3) (lk : zLk (mY M).cls idx (mY M')) (hs : Cond.static (mY M') ∈ zT) (hst : (st.map fun v => v.category).sum ≤ 8) (hu : u.1 + mK M' ≤ mK M ∧ u.2 + mS M' ≤ mS M) (h : ZK G d M' [a1, a2, a3] α (fun v α1 => Z G M (d + 1) (pc + 3) L (zst v st) α1 (u.1 + mK M', u.2 + mS M') post)) : Z G M (d + 1) pc L (a3 :: a2 :: a1 :: st) α u post := Z_runS hd to lk hs rfl hst hu rfl h
theorem Z_V3 {idx k ci z : Nat} {q : vw_C} {a1 a2 a3 : Value} (hd : decode (mC M) pc = .ok (.invokevirtual idx, 3)) (to : zTo M' 3) (lk : zLk (mY M).cls idx (mY M')) (hi : Cond.instanceMethod (mY M') ∈ zT ∧ Cond.selects (mY M').cls (mY M') (mY M') ∈ zT) (hq : vwCl[ci]? = some q ∧ q.1 = (mY M').cls) (hk : zIs α k (ci + 4, z)) (hst : (st.map fun v => v.category).sum ≤ 8) (hu : u.1 + mK M' ≤ mK M ∧ u.2 + mS M' ≤ mS M) (h : ZK G d M' (.ref (G.1 + k) :: [a1, a2, a3]) α (fun v α1 => Z G M (d + 1) (pc + 3) L (zst v st) α1 (u.1 + mK M', u.2 + mS M') post)) : Z G M (d + 1) pc L (a3 :: a2 :: a1 :: .ref (G.1 + k) :: st) α u post := Z_runV hd to lk hi.1 hi.2 hq hk rfl hst hu rfl h
theorem Z_I3 {idx k : Nat} {a1 a2 a3 : Value} (hd : decode (mC M) pc = .ok (.invokespecial idx, 3)) (to : zTo M' 3) (lk : zLk (mY M).cls idx (mY M')) (hi : Cond.instanceMethod (mY M') ∈ zT) (hy : (mY M').name = "<init>" ∧ mR M' = none) (hst : (st.map fun v => v.category).sum ≤ 8) (hu : u.1 + mK M' ≤ mK M ∧ u.2 + mS M' ≤ mS M) (h : ZK G d M' (.ref (G.1 + k) :: [a1, a2, a3]) α (fun v α1 => Z G M (d + 1) (pc + 3) L (zst v st) α1 (u.1 + mK M', u.2 + mS M') post)) : Z G M (d + 1) pc L (a3 :: a2 :: a1 :: .ref (G.1 + k) :: st) α u post := Z_runI hd to lk hi hy rfl hst hu rfl h
theorem Z_S4 {idx : Nat} {a1 a2 a3 a4 : Value} (hd : decode (mC M) pc = .ok (.invokestatic idx, 3)) (to : zTo M' 4) (lk : zLk (mY M).cls idx (mY M')) (hs : Cond.static (mY M') ∈ zT) (hst : (st.map fun v => v.category).sum ≤ 8) (hu : u.1 + mK M' ≤ mK M ∧ u.2 + mS M' ≤ mS M) (h : ZK G d M' [a1, a2, a3, a4] α (fun v α1 => Z G M (d + 1) (pc + 3) L (zst v st) α1 (u.1 + mK M', u.2 + mS M') post)) : Z G M (d + 1) pc L (a4 :: a3 :: a2 :: a1 :: st) α u post := Z_runS hd to lk hs rfl hst hu rfl h
theorem Z_V4 {idx k ci z : Nat} {q : vw_C} {a1 a2 a3 a4 : Value} (hd : decode (mC M) pc = .ok (.invokevirtual idx, 3)) (to : zTo M' 4) (lk : zLk (mY M).cls idx (mY M')) (hi : Cond.instanceMethod (mY M') ∈ zT ∧ Cond.selects (mY M').cls (mY M') (mY M') ∈ zT) (hq : vwCl[ci]? = some q ∧ q.1 = (mY M').cls) (hk : zIs α k (ci + 4, z)) (hst : (st.map fun v => v.category).sum ≤ 8) (hu : u.1 + mK M' ≤ mK M ∧ u.2 + mS M' ≤ mS M) (h : ZK G d M' (.ref (G.1 + k) :: [a1, a2, a3, a4]) α (fun v α1 => Z G M (d + 1) (pc + 3) L (zst v st) α1 (u.1 + mK M', u.2 + mS M') post)) : Z G M (d + 1) pc L (a4 :: a3 :: a2 :: a1 :: .ref (G.1 + k) :: st) α u post := Z_runV hd to lk hi.1 hi.2 hq hk rfl hst hu rfl h
theorem Z_I4 {idx k : Nat} {a1 a2 a3 a4 : Value} (hd : decode (mC M) pc = .ok (.invokespecial idx, 3)) (to : zTo M' 4) (lk : zLk (mY M).cls idx (mY M')) (hi : Cond.instanceMethod (mY M') ∈ zT) (hy : (mY M').name = "<init>" ∧ mR M' = none) (hst : (st.map fun v => v.category).sum ≤ 8) (hu : u.1 + mK M' ≤ mK M ∧ u.2 + mS M' ≤ mS M) (h : ZK G d M' (.ref (G.1 + k) :: [a1, a2, a3, a4]) α (fun v α1 => Z G M (d + 1) (pc + 3) L (zst v st) α1 (u.1 + mK M', u.2 + mS M') post)) : Z G M (d + 1) pc L (a4 :: a3 :: a2 :: a1 :: .ref (G.1 + k) :: st) α u post := Z_runI hd to lk hi hy rfl hst hu rfl h
theorem Z_S5 {idx : Nat} {a1 a2 a3 a4 a5 : Value} (hd : decode (mC M) pc = .ok (.invokestatic idx, 3)) (to : zTo M' 5) (lk : zLk (mY M).cls idx (mY M')) (hs : Cond.static (mY M') ∈ zT) (hst : (st.map fun v => v.category).sum ≤ 8) (hu : u.1 + mK M' ≤ mK M ∧ u.2 + mS M' ≤ mS M) (h : ZK G d M' [a1, a2, a3, a4, a5] α (fun v α1 => Z G M (d + 1) (pc + 3) L (zst v st) α1 (u.1 + mK M', u.2 + mS M') post)) : Z G M (d + 1) pc L (a5 :: a4 :: a3 :: a2 :: a1 :: st) α u post := Z_runS hd to lk hs rfl hst hu rfl h
theorem Z_V5 {idx k ci z : Nat} {q : vw_C} {a1 a2 a3 a4 a5 : Value} (hd : decode (mC M) pc = .ok (.invokevirtual idx, 3)) (to : zTo M' 5) (lk : zLk (mY M).cls idx (mY M')) (hi : Cond.instanceMethod (mY M') ∈ zT ∧ Cond.selects (mY M').cls (mY M') (mY M') ∈ zT) (hq : vwCl[ci]? = some q ∧ q.1 = (mY M').cls) (hk : zIs α k (ci + 4, z)) (hst : (st.map fun v => v.category).sum ≤ 8) (hu : u.1 + mK M' ≤ mK M ∧ u.2 + mS M' ≤ mS M) (h : ZK G d M' (.ref (G.1 + k) :: [a1, a2, a3, a4, a5]) α (fun v α1 => Z G M (d + 1) (pc + 3) L (zst v st) α1 (u.1 + mK M', u.2 + mS M') post)) : Z G M (d + 1) pc L (a5 :: a4 :: a3 :: a2 :: a1 :: .ref (G.1 + k) :: st) α u post := Z_runV hd to lk hi.1 hi.2 hq hk rfl hst hu rfl h
theorem Z_I5 {idx k : Nat} {a1 a2 a3 a4 a5 : Value} (hd : decode (mC M) pc = .ok (.invokespecial idx, 3)) (to : zTo M' 5) (lk : zLk (mY M).cls idx (mY M')) (hi : Cond.instanceMethod (mY M') ∈ zT) (hy : (mY M').name = "<init>" ∧ mR M' = none) (hst : (st.map fun v => v.category).sum ≤ 8) (hu : u.1 + mK M' ≤ mK M ∧ u.2 + mS M' ≤ mS M) (h : ZK G d M' (.ref (G.1 + k) :: [a1, a2, a3, a4, a5]) α (fun v α1 => Z G M (d + 1) (pc + 3) L (zst v st) α1 (u.1 + mK M', u.2 + mS M') post)) : Z G M (d + 1) pc L (a5 :: a4 :: a3 :: a2 :: a1 :: .ref (G.1 + k) :: st) α u post := Z_runI hd to lk hi hy rfl hst hu rfl h
end ZR4
end
