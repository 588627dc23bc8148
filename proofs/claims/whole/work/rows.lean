section
-- ===== PART A: goes FIRST, ahead of the names: the tables' words, and 'selects' of the private methods out of them =====
/-- a private method of a class that the tables say can be made, by its rows of tables_1 -/
def lw_okq (q : MethodName × Nat) : Prop := (q.1.cls ≠ "java/lang/invoke/MethodHandle" ∧ q.1.cls ≠ "java/lang/invoke/VarHandle") ∧ Cond.instantiable q.1.cls q.2 ∈ tables_1 ∧ Cond.privateMethod q.1 ∈ tables_1 ∧ Cond.instanceMethod q.1 ∈ tables_1
theorem lw_p0 : lw_okq (⟨"LatePrices$Tape", "endOfRun", "(III)I"⟩, 6) := ⟨⟨by decide +kernel, by decide +kernel⟩, List.mem_of_getElem? (i := 30) (by decide +kernel), List.mem_of_getElem? (i := 441) (by decide +kernel), List.mem_of_getElem? (i := 442) (by decide +kernel)⟩
theorem lw_p1 : lw_okq (⟨"LatePrices$Tape", "byteAt", "(I)I"⟩, 6) := ⟨⟨by decide +kernel, by decide +kernel⟩, List.mem_of_getElem? (i := 30) (by decide +kernel), List.mem_of_getElem? (i := 445) (by decide +kernel), List.mem_of_getElem? (i := 446) (by decide +kernel)⟩
theorem lw_p2 : lw_okq (⟨"LatePrices$Reader", "isOf", "(I)Z"⟩, 7) := ⟨⟨by decide +kernel, by decide +kernel⟩, List.mem_of_getElem? (i := 137) (by decide +kernel), List.mem_of_getElem? (i := 449) (by decide +kernel), List.mem_of_getElem? (i := 450) (by decide +kernel)⟩
theorem lw_p3 : lw_okq (⟨"LatePrices$Reader", "fail", "(I)Z"⟩, 7) := ⟨⟨by decide +kernel, by decide +kernel⟩, List.mem_of_getElem? (i := 137) (by decide +kernel), List.mem_of_getElem? (i := 453) (by decide +kernel), List.mem_of_getElem? (i := 454) (by decide +kernel)⟩
theorem lw_p4 : lw_okq (⟨"LatePrices$Reader", "takeLine", "()Z"⟩, 7) := ⟨⟨by decide +kernel, by decide +kernel⟩, List.mem_of_getElem? (i := 137) (by decide +kernel), List.mem_of_getElem? (i := 457) (by decide +kernel), List.mem_of_getElem? (i := 458) (by decide +kernel)⟩
theorem lw_p5 : lw_okq (⟨"LatePrices$Reader", "takePlace", "()Z"⟩, 7) := ⟨⟨by decide +kernel, by decide +kernel⟩, List.mem_of_getElem? (i := 137) (by decide +kernel), List.mem_of_getElem? (i := 514) (by decide +kernel), List.mem_of_getElem? (i := 515) (by decide +kernel)⟩
theorem lw_p6 : lw_okq (⟨"LatePrices$Reader", "takeNumber", "(II)Z"⟩, 7) := ⟨⟨by decide +kernel, by decide +kernel⟩, List.mem_of_getElem? (i := 137) (by decide +kernel), List.mem_of_getElem? (i := 518) (by decide +kernel), List.mem_of_getElem? (i := 519) (by decide +kernel)⟩
theorem lw_p7 : lw_okq (⟨"LatePrices$Reader", "takeWay", "()Z"⟩, 7) := ⟨⟨by decide +kernel, by decide +kernel⟩, List.mem_of_getElem? (i := 137) (by decide +kernel), List.mem_of_getElem? (i := 523) (by decide +kernel), List.mem_of_getElem? (i := 524) (by decide +kernel)⟩
theorem lw_p8 : lw_okq (⟨"LatePrices$Reader", "takeShut", "()Z"⟩, 7) := ⟨⟨by decide +kernel, by decide +kernel⟩, List.mem_of_getElem? (i := 137) (by decide +kernel), List.mem_of_getElem? (i := 531) (by decide +kernel), List.mem_of_getElem? (i := 532) (by decide +kernel)⟩
theorem lw_p9 : lw_okq (⟨"LatePrices$Reader", "takeMoves", "()Z"⟩, 7) := ⟨⟨by decide +kernel, by decide +kernel⟩, List.mem_of_getElem? (i := 137) (by decide +kernel), List.mem_of_getElem? (i := 536) (by decide +kernel), List.mem_of_getElem? (i := 537) (by decide +kernel)⟩
theorem lw_p10 : lw_okq (⟨"LatePrices$Reader", "takeFirst", "()Z"⟩, 7) := ⟨⟨by decide +kernel, by decide +kernel⟩, List.mem_of_getElem? (i := 137) (by decide +kernel), List.mem_of_getElem? (i := 545) (by decide +kernel), List.mem_of_getElem? (i := 546) (by decide +kernel)⟩
theorem lw_p11 : lw_okq (⟨"LatePrices$Reader", "takeMost", "()Z"⟩, 7) := ⟨⟨by decide +kernel, by decide +kernel⟩, List.mem_of_getElem? (i := 137) (by decide +kernel), List.mem_of_getElem? (i := 553) (by decide +kernel), List.mem_of_getElem? (i := 554) (by decide +kernel)⟩
theorem lw_p12 : lw_okq (⟨"LatePrices", "isPlace", "(I)Z"⟩, 14) := ⟨⟨by decide +kernel, by decide +kernel⟩, List.mem_of_getElem? (i := 22) (by decide +kernel), List.mem_of_getElem? (i := 580) (by decide +kernel), List.mem_of_getElem? (i := 581) (by decide +kernel)⟩
theorem lw_p13 : lw_okq (⟨"LatePrices$News", "firstReached", "(I)I"⟩, 3) := ⟨⟨by decide +kernel, by decide +kernel⟩, List.mem_of_getElem? (i := 167) (by decide +kernel), List.mem_of_getElem? (i := 601) (by decide +kernel), List.mem_of_getElem? (i := 602) (by decide +kernel)⟩
theorem lw_p14 : lw_okq (⟨"LatePrices$News", "goOn", "(I)V"⟩, 3) := ⟨⟨by decide +kernel, by decide +kernel⟩, List.mem_of_getElem? (i := 167) (by decide +kernel), List.mem_of_getElem? (i := 605) (by decide +kernel), List.mem_of_getElem? (i := 606) (by decide +kernel)⟩
theorem lw_p15 : lw_okq (⟨"LatePrices$News", "lastLeft", "(I)I"⟩, 3) := ⟨⟨by decide +kernel, by decide +kernel⟩, List.mem_of_getElem? (i := 167) (by decide +kernel), List.mem_of_getElem? (i := 632) (by decide +kernel), List.mem_of_getElem? (i := 633) (by decide +kernel)⟩
def lw_privs_1 : List (MethodName × Nat) := [(⟨"LatePrices$Tape", "endOfRun", "(III)I"⟩, 6), (⟨"LatePrices$Tape", "byteAt", "(I)I"⟩, 6), (⟨"LatePrices$Reader", "isOf", "(I)Z"⟩, 7), (⟨"LatePrices$Reader", "fail", "(I)Z"⟩, 7), (⟨"LatePrices$Reader", "takeLine", "()Z"⟩, 7), (⟨"LatePrices$Reader", "takePlace", "()Z"⟩, 7), (⟨"LatePrices$Reader", "takeNumber", "(II)Z"⟩, 7), (⟨"LatePrices$Reader", "takeWay", "()Z"⟩, 7), (⟨"LatePrices$Reader", "takeShut", "()Z"⟩, 7), (⟨"LatePrices$Reader", "takeMoves", "()Z"⟩, 7), (⟨"LatePrices$Reader", "takeFirst", "()Z"⟩, 7), (⟨"LatePrices$Reader", "takeMost", "()Z"⟩, 7), (⟨"LatePrices", "isPlace", "(I)Z"⟩, 14), (⟨"LatePrices$News", "firstReached", "(I)I"⟩, 3), (⟨"LatePrices$News", "goOn", "(I)V"⟩, 3), (⟨"LatePrices$News", "lastLeft", "(I)I"⟩, 3)]
theorem lw_r1 : ∀ q ∈ lw_privs_1, lw_okq q := List.forall_mem_cons.mpr ⟨lw_p0, List.forall_mem_cons.mpr ⟨lw_p1, List.forall_mem_cons.mpr ⟨lw_p2, List.forall_mem_cons.mpr ⟨lw_p3, List.forall_mem_cons.mpr ⟨lw_p4, List.forall_mem_cons.mpr ⟨lw_p5, List.forall_mem_cons.mpr ⟨lw_p6, List.forall_mem_cons.mpr ⟨lw_p7, List.forall_mem_cons.mpr ⟨lw_p8, List.forall_mem_cons.mpr ⟨lw_p9, List.forall_mem_cons.mpr ⟨lw_p10, List.forall_mem_cons.mpr ⟨lw_p11, List.forall_mem_cons.mpr ⟨lw_p12, List.forall_mem_cons.mpr ⟨lw_p13, List.forall_mem_cons.mpr ⟨lw_p14, List.forall_mem_cons.mpr ⟨lw_p15, fun _ h => absurd h List.not_mem_nil⟩⟩⟩⟩⟩⟩⟩⟩⟩⟩⟩⟩⟩⟩⟩⟩
theorem lw_p16 : lw_okq (⟨"LatePrices$News", "goBack", "(I)V"⟩, 3) := ⟨⟨by decide +kernel, by decide +kernel⟩, List.mem_of_getElem? (i := 167) (by decide +kernel), List.mem_of_getElem? (i := 636) (by decide +kernel), List.mem_of_getElem? (i := 637) (by decide +kernel)⟩
theorem lw_p17 : lw_okq (⟨"LatePrices", "isCall", "(I)Z"⟩, 14) := ⟨⟨by decide +kernel, by decide +kernel⟩, List.mem_of_getElem? (i := 22) (by decide +kernel), List.mem_of_getElem? (i := 686) (by decide +kernel), List.mem_of_getElem? (i := 687) (by decide +kernel)⟩
theorem lw_p18 : lw_okq (⟨"LatePrices$Ledger", "lastUnmoved", "(I)I"⟩, 5) := ⟨⟨by decide +kernel, by decide +kernel⟩, List.mem_of_getElem? (i := 186) (by decide +kernel), List.mem_of_getElem? (i := 699) (by decide +kernel), List.mem_of_getElem? (i := 700) (by decide +kernel)⟩
theorem lw_p19 : lw_okq (⟨"LatePrices$Strikes", "putInOrder", "()V"⟩, 12) := ⟨⟨by decide +kernel, by decide +kernel⟩, List.mem_of_getElem? (i := 241) (by decide +kernel), List.mem_of_getElem? (i := 714) (by decide +kernel), List.mem_of_getElem? (i := 715) (by decide +kernel)⟩
theorem lw_p20 : lw_okq (⟨"LatePrices$Strikes", "isAhead", "(II)Z"⟩, 12) := ⟨⟨by decide +kernel, by decide +kernel⟩, List.mem_of_getElem? (i := 241) (by decide +kernel), List.mem_of_getElem? (i := 718) (by decide +kernel), List.mem_of_getElem? (i := 719) (by decide +kernel)⟩
theorem lw_p21 : lw_okq (⟨"LatePrices$Strikes", "strike", "(I)V"⟩, 12) := ⟨⟨by decide +kernel, by decide +kernel⟩, List.mem_of_getElem? (i := 241) (by decide +kernel), List.mem_of_getElem? (i := 722) (by decide +kernel), List.mem_of_getElem? (i := 723) (by decide +kernel)⟩
theorem lw_p22 : lw_okq (⟨"LatePrices$Strikes", "isStanding", "(II)Z"⟩, 12) := ⟨⟨by decide +kernel, by decide +kernel⟩, List.mem_of_getElem? (i := 241) (by decide +kernel), List.mem_of_getElem? (i := 726) (by decide +kernel), List.mem_of_getElem? (i := 727) (by decide +kernel)⟩
theorem lw_p23 : lw_okq (⟨"LatePrices", "isDeal", "(I)Z"⟩, 14) := ⟨⟨by decide +kernel, by decide +kernel⟩, List.mem_of_getElem? (i := 22) (by decide +kernel), List.mem_of_getElem? (i := 752) (by decide +kernel), List.mem_of_getElem? (i := 753) (by decide +kernel)⟩
theorem lw_p24 : lw_okq (⟨"LatePrices", "isEmptyAs", "(II)Z"⟩, 14) := ⟨⟨by decide +kernel, by decide +kernel⟩, List.mem_of_getElem? (i := 22) (by decide +kernel), List.mem_of_getElem? (i := 765) (by decide +kernel), List.mem_of_getElem? (i := 766) (by decide +kernel)⟩
theorem lw_p25 : lw_okq (⟨"LatePrices$Strikes", "payment", "(II)I"⟩, 12) := ⟨⟨by decide +kernel, by decide +kernel⟩, List.mem_of_getElem? (i := 241) (by decide +kernel), List.mem_of_getElem? (i := 778) (by decide +kernel), List.mem_of_getElem? (i := 779) (by decide +kernel)⟩
theorem lw_p26 : lw_okq (⟨"LatePrices$Strikes", "sumOfDearest", "(II)I"⟩, 12) := ⟨⟨by decide +kernel, by decide +kernel⟩, List.mem_of_getElem? (i := 241) (by decide +kernel), List.mem_of_getElem? (i := 786) (by decide +kernel), List.mem_of_getElem? (i := 787) (by decide +kernel)⟩
theorem lw_p27 : lw_okq (⟨"LatePrices$Gains", "setStretch", "(IIZ)V"⟩, 7) := ⟨⟨by decide +kernel, by decide +kernel⟩, List.mem_of_getElem? (i := 287) (by decide +kernel), List.mem_of_getElem? (i := 803) (by decide +kernel), List.mem_of_getElem? (i := 804) (by decide +kernel)⟩
theorem lw_p28 : lw_okq (⟨"LatePrices$Gains", "best", "(I)I"⟩, 7) := ⟨⟨by decide +kernel, by decide +kernel⟩, List.mem_of_getElem? (i := 287) (by decide +kernel), List.mem_of_getElem? (i := 814) (by decide +kernel), List.mem_of_getElem? (i := 815) (by decide +kernel)⟩
theorem lw_p29 : lw_okq (⟨"LatePrices$Gains", "margin", "(II)I"⟩, 7) := ⟨⟨by decide +kernel, by decide +kernel⟩, List.mem_of_getElem? (i := 287) (by decide +kernel), List.mem_of_getElem? (i := 818) (by decide +kernel), List.mem_of_getElem? (i := 819) (by decide +kernel)⟩
theorem lw_p30 : lw_okq (⟨"LatePrices$Strikes", "unitsLeft", "(II)I"⟩, 12) := ⟨⟨by decide +kernel, by decide +kernel⟩, List.mem_of_getElem? (i := 241) (by decide +kernel), List.mem_of_getElem? (i := 846) (by decide +kernel), List.mem_of_getElem? (i := 847) (by decide +kernel)⟩
theorem lw_p31 : lw_okq (⟨"LatePrices$Waits", "longestBehind", "(IIIII)I"⟩, 3) := ⟨⟨by decide +kernel, by decide +kernel⟩, List.mem_of_getElem? (i := 317) (by decide +kernel), List.mem_of_getElem? (i := 886) (by decide +kernel), List.mem_of_getElem? (i := 887) (by decide +kernel)⟩
def lw_privs_2 : List (MethodName × Nat) := [(⟨"LatePrices$News", "goBack", "(I)V"⟩, 3), (⟨"LatePrices", "isCall", "(I)Z"⟩, 14), (⟨"LatePrices$Ledger", "lastUnmoved", "(I)I"⟩, 5), (⟨"LatePrices$Strikes", "putInOrder", "()V"⟩, 12), (⟨"LatePrices$Strikes", "isAhead", "(II)Z"⟩, 12), (⟨"LatePrices$Strikes", "strike", "(I)V"⟩, 12), (⟨"LatePrices$Strikes", "isStanding", "(II)Z"⟩, 12), (⟨"LatePrices", "isDeal", "(I)Z"⟩, 14), (⟨"LatePrices", "isEmptyAs", "(II)Z"⟩, 14), (⟨"LatePrices$Strikes", "payment", "(II)I"⟩, 12), (⟨"LatePrices$Strikes", "sumOfDearest", "(II)I"⟩, 12), (⟨"LatePrices$Gains", "setStretch", "(IIZ)V"⟩, 7), (⟨"LatePrices$Gains", "best", "(I)I"⟩, 7), (⟨"LatePrices$Gains", "margin", "(II)I"⟩, 7), (⟨"LatePrices$Strikes", "unitsLeft", "(II)I"⟩, 12), (⟨"LatePrices$Waits", "longestBehind", "(IIIII)I"⟩, 3)]
theorem lw_r2 : ∀ q ∈ lw_privs_2, lw_okq q := List.forall_mem_cons.mpr ⟨lw_p16, List.forall_mem_cons.mpr ⟨lw_p17, List.forall_mem_cons.mpr ⟨lw_p18, List.forall_mem_cons.mpr ⟨lw_p19, List.forall_mem_cons.mpr ⟨lw_p20, List.forall_mem_cons.mpr ⟨lw_p21, List.forall_mem_cons.mpr ⟨lw_p22, List.forall_mem_cons.mpr ⟨lw_p23, List.forall_mem_cons.mpr ⟨lw_p24, List.forall_mem_cons.mpr ⟨lw_p25, List.forall_mem_cons.mpr ⟨lw_p26, List.forall_mem_cons.mpr ⟨lw_p27, List.forall_mem_cons.mpr ⟨lw_p28, List.forall_mem_cons.mpr ⟨lw_p29, List.forall_mem_cons.mpr ⟨lw_p30, List.forall_mem_cons.mpr ⟨lw_p31, fun _ h => absurd h List.not_mem_nil⟩⟩⟩⟩⟩⟩⟩⟩⟩⟩⟩⟩⟩⟩⟩⟩
theorem lw_p32 : lw_okq (⟨"LatePricesModel", "next", "()V"⟩, 38) := ⟨⟨by decide +kernel, by decide +kernel⟩, List.mem_of_getElem? (i := 1014) (by decide +kernel), List.mem_of_getElem? (i := 1151) (by decide +kernel), List.mem_of_getElem? (i := 1152) (by decide +kernel)⟩
theorem lw_p33 : lw_okq (⟨"LatePricesModel", "byteAt", "(I)I"⟩, 38) := ⟨⟨by decide +kernel, by decide +kernel⟩, List.mem_of_getElem? (i := 1014) (by decide +kernel), List.mem_of_getElem? (i := 1155) (by decide +kernel), List.mem_of_getElem? (i := 1156) (by decide +kernel)⟩
theorem lw_p34 : lw_okq (⟨"LatePricesModel", "fails", "(I)V"⟩, 38) := ⟨⟨by decide +kernel, by decide +kernel⟩, List.mem_of_getElem? (i := 1014) (by decide +kernel), List.mem_of_getElem? (i := 1163) (by decide +kernel), List.mem_of_getElem? (i := 1164) (by decide +kernel)⟩
theorem lw_p35 : lw_okq (⟨"LatePricesModel", "readLine", "()V"⟩, 38) := ⟨⟨by decide +kernel, by decide +kernel⟩, List.mem_of_getElem? (i := 1014) (by decide +kernel), List.mem_of_getElem? (i := 1167) (by decide +kernel), List.mem_of_getElem? (i := 1168) (by decide +kernel)⟩
theorem lw_p36 : lw_okq (⟨"LatePricesModel", "nameHere", "()I"⟩, 38) := ⟨⟨by decide +kernel, by decide +kernel⟩, List.mem_of_getElem? (i := 1014) (by decide +kernel), List.mem_of_getElem? (i := 1171) (by decide +kernel), List.mem_of_getElem? (i := 1172) (by decide +kernel)⟩
theorem lw_p37 : lw_okq (⟨"LatePricesModel", "number", "(II)I"⟩, 38) := ⟨⟨by decide +kernel, by decide +kernel⟩, List.mem_of_getElem? (i := 1014) (by decide +kernel), List.mem_of_getElem? (i := 1176) (by decide +kernel), List.mem_of_getElem? (i := 1177) (by decide +kernel)⟩
theorem lw_p38 : lw_okq (⟨"LatePricesModel", "here", "(II)I"⟩, 38) := ⟨⟨by decide +kernel, by decide +kernel⟩, List.mem_of_getElem? (i := 1014) (by decide +kernel), List.mem_of_getElem? (i := 1180) (by decide +kernel), List.mem_of_getElem? (i := 1181) (by decide +kernel)⟩
theorem lw_p39 : lw_okq (⟨"LatePricesModel", "readWay", "()V"⟩, 38) := ⟨⟨by decide +kernel, by decide +kernel⟩, List.mem_of_getElem? (i := 1014) (by decide +kernel), List.mem_of_getElem? (i := 1184) (by decide +kernel), List.mem_of_getElem? (i := 1185) (by decide +kernel)⟩
theorem lw_p40 : lw_okq (⟨"LatePricesModel", "readShut", "()V"⟩, 38) := ⟨⟨by decide +kernel, by decide +kernel⟩, List.mem_of_getElem? (i := 1014) (by decide +kernel), List.mem_of_getElem? (i := 1188) (by decide +kernel), List.mem_of_getElem? (i := 1189) (by decide +kernel)⟩
theorem lw_p41 : lw_okq (⟨"LatePricesModel", "readRule", "(I)V"⟩, 38) := ⟨⟨by decide +kernel, by decide +kernel⟩, List.mem_of_getElem? (i := 1014) (by decide +kernel), List.mem_of_getElem? (i := 1192) (by decide +kernel), List.mem_of_getElem? (i := 1193) (by decide +kernel)⟩
theorem lw_p42 : lw_okq (⟨"LatePricesModel", "isPlace", "(I)Z"⟩, 38) := ⟨⟨by decide +kernel, by decide +kernel⟩, List.mem_of_getElem? (i := 1014) (by decide +kernel), List.mem_of_getElem? (i := 1209) (by decide +kernel), List.mem_of_getElem? (i := 1210) (by decide +kernel)⟩
theorem lw_p43 : lw_okq (⟨"LatePricesModel", "news", "(III)I"⟩, 38) := ⟨⟨by decide +kernel, by decide +kernel⟩, List.mem_of_getElem? (i := 1014) (by decide +kernel), List.mem_of_getElem? (i := 1221) (by decide +kernel), List.mem_of_getElem? (i := 1222) (by decide +kernel)⟩
theorem lw_p44 : lw_okq (⟨"LatePricesModel", "layNews", "(II)V"⟩, 38) := ⟨⟨by decide +kernel, by decide +kernel⟩, List.mem_of_getElem? (i := 1014) (by decide +kernel), List.mem_of_getElem? (i := 1225) (by decide +kernel), List.mem_of_getElem? (i := 1226) (by decide +kernel)⟩
theorem lw_p45 : lw_okq (⟨"LatePricesModel", "leaves", "(III)I"⟩, 38) := ⟨⟨by decide +kernel, by decide +kernel⟩, List.mem_of_getElem? (i := 1014) (by decide +kernel), List.mem_of_getElem? (i := 1229) (by decide +kernel), List.mem_of_getElem? (i := 1230) (by decide +kernel)⟩
theorem lw_p46 : lw_okq (⟨"LatePricesModel", "latest", "(III)I"⟩, 38) := ⟨⟨by decide +kernel, by decide +kernel⟩, List.mem_of_getElem? (i := 1014) (by decide +kernel), List.mem_of_getElem? (i := 1241) (by decide +kernel), List.mem_of_getElem? (i := 1242) (by decide +kernel)⟩
theorem lw_p47 : lw_okq (⟨"LatePricesModel", "priceAt", "(II)I"⟩, 38) := ⟨⟨by decide +kernel, by decide +kernel⟩, List.mem_of_getElem? (i := 1014) (by decide +kernel), List.mem_of_getElem? (i := 1245) (by decide +kernel), List.mem_of_getElem? (i := 1246) (by decide +kernel)⟩
def lw_privs_3 : List (MethodName × Nat) := [(⟨"LatePricesModel", "next", "()V"⟩, 38), (⟨"LatePricesModel", "byteAt", "(I)I"⟩, 38), (⟨"LatePricesModel", "fails", "(I)V"⟩, 38), (⟨"LatePricesModel", "readLine", "()V"⟩, 38), (⟨"LatePricesModel", "nameHere", "()I"⟩, 38), (⟨"LatePricesModel", "number", "(II)I"⟩, 38), (⟨"LatePricesModel", "here", "(II)I"⟩, 38), (⟨"LatePricesModel", "readWay", "()V"⟩, 38), (⟨"LatePricesModel", "readShut", "()V"⟩, 38), (⟨"LatePricesModel", "readRule", "(I)V"⟩, 38), (⟨"LatePricesModel", "isPlace", "(I)Z"⟩, 38), (⟨"LatePricesModel", "news", "(III)I"⟩, 38), (⟨"LatePricesModel", "layNews", "(II)V"⟩, 38), (⟨"LatePricesModel", "leaves", "(III)I"⟩, 38), (⟨"LatePricesModel", "latest", "(III)I"⟩, 38), (⟨"LatePricesModel", "priceAt", "(II)I"⟩, 38)]
theorem lw_r3 : ∀ q ∈ lw_privs_3, lw_okq q := List.forall_mem_cons.mpr ⟨lw_p32, List.forall_mem_cons.mpr ⟨lw_p33, List.forall_mem_cons.mpr ⟨lw_p34, List.forall_mem_cons.mpr ⟨lw_p35, List.forall_mem_cons.mpr ⟨lw_p36, List.forall_mem_cons.mpr ⟨lw_p37, List.forall_mem_cons.mpr ⟨lw_p38, List.forall_mem_cons.mpr ⟨lw_p39, List.forall_mem_cons.mpr ⟨lw_p40, List.forall_mem_cons.mpr ⟨lw_p41, List.forall_mem_cons.mpr ⟨lw_p42, List.forall_mem_cons.mpr ⟨lw_p43, List.forall_mem_cons.mpr ⟨lw_p44, List.forall_mem_cons.mpr ⟨lw_p45, List.forall_mem_cons.mpr ⟨lw_p46, List.forall_mem_cons.mpr ⟨lw_p47, fun _ h => absurd h List.not_mem_nil⟩⟩⟩⟩⟩⟩⟩⟩⟩⟩⟩⟩⟩⟩⟩⟩
theorem lw_p48 : lw_okq (⟨"LatePricesModel", "addStep", "(III)V"⟩, 38) := ⟨⟨by decide +kernel, by decide +kernel⟩, List.mem_of_getElem? (i := 1014) (by decide +kernel), List.mem_of_getElem? (i := 1253) (by decide +kernel), List.mem_of_getElem? (i := 1254) (by decide +kernel)⟩
theorem lw_p49 : lw_okq (⟨"LatePricesModel", "isCall", "(I)Z"⟩, 38) := ⟨⟨by decide +kernel, by decide +kernel⟩, List.mem_of_getElem? (i := 1014) (by decide +kernel), List.mem_of_getElem? (i := 1275) (by decide +kernel), List.mem_of_getElem? (i := 1276) (by decide +kernel)⟩
theorem lw_p50 : lw_okq (⟨"LatePricesModel", "its", "(II)I"⟩, 38) := ⟨⟨by decide +kernel, by decide +kernel⟩, List.mem_of_getElem? (i := 1014) (by decide +kernel), List.mem_of_getElem? (i := 1279) (by decide +kernel), List.mem_of_getElem? (i := 1280) (by decide +kernel)⟩
theorem lw_p51 : lw_okq (⟨"LatePricesModel", "takenBack", "(I)I"⟩, 38) := ⟨⟨by decide +kernel, by decide +kernel⟩, List.mem_of_getElem? (i := 1014) (by decide +kernel), List.mem_of_getElem? (i := 1283) (by decide +kernel), List.mem_of_getElem? (i := 1284) (by decide +kernel)⟩
theorem lw_p52 : lw_okq (⟨"LatePricesModel", "ends", "(I)I"⟩, 38) := ⟨⟨by decide +kernel, by decide +kernel⟩, List.mem_of_getElem? (i := 1014) (by decide +kernel), List.mem_of_getElem? (i := 1292) (by decide +kernel), List.mem_of_getElem? (i := 1293) (by decide +kernel)⟩
theorem lw_p53 : lw_okq (⟨"LatePricesModel", "layStruck", "()V"⟩, 38) := ⟨⟨by decide +kernel, by decide +kernel⟩, List.mem_of_getElem? (i := 1014) (by decide +kernel), List.mem_of_getElem? (i := 1296) (by decide +kernel), List.mem_of_getElem? (i := 1297) (by decide +kernel)⟩
theorem lw_p54 : lw_okq (⟨"LatePricesModel", "deals", "()I"⟩, 38) := ⟨⟨by decide +kernel, by decide +kernel⟩, List.mem_of_getElem? (i := 1014) (by decide +kernel), List.mem_of_getElem? (i := 1300) (by decide +kernel), List.mem_of_getElem? (i := 1301) (by decide +kernel)⟩
theorem lw_p55 : lw_okq (⟨"LatePricesModel", "sent4", "(II)I"⟩, 38) := ⟨⟨by decide +kernel, by decide +kernel⟩, List.mem_of_getElem? (i := 1014) (by decide +kernel), List.mem_of_getElem? (i := 1304) (by decide +kernel), List.mem_of_getElem? (i := 1305) (by decide +kernel)⟩
theorem lw_p56 : lw_okq (⟨"LatePricesModel", "isAhead", "(II)Z"⟩, 38) := ⟨⟨by decide +kernel, by decide +kernel⟩, List.mem_of_getElem? (i := 1014) (by decide +kernel), List.mem_of_getElem? (i := 1308) (by decide +kernel), List.mem_of_getElem? (i := 1309) (by decide +kernel)⟩
theorem lw_p57 : lw_okq (⟨"LatePricesModel", "rank", "(I)I"⟩, 38) := ⟨⟨by decide +kernel, by decide +kernel⟩, List.mem_of_getElem? (i := 1014) (by decide +kernel), List.mem_of_getElem? (i := 1312) (by decide +kernel), List.mem_of_getElem? (i := 1313) (by decide +kernel)⟩
theorem lw_p58 : lw_okq (⟨"LatePricesModel", "standsIn", "(II)Z"⟩, 38) := ⟨⟨by decide +kernel, by decide +kernel⟩, List.mem_of_getElem? (i := 1014) (by decide +kernel), List.mem_of_getElem? (i := 1316) (by decide +kernel), List.mem_of_getElem? (i := 1317) (by decide +kernel)⟩
theorem lw_p59 : lw_okq (⟨"LatePricesModel", "seenBy", "(III)I"⟩, 38) := ⟨⟨by decide +kernel, by decide +kernel⟩, List.mem_of_getElem? (i := 1014) (by decide +kernel), List.mem_of_getElem? (i := 1328) (by decide +kernel), List.mem_of_getElem? (i := 1329) (by decide +kernel)⟩
theorem lw_p60 : lw_okq (⟨"LatePricesModel", "isDeal", "(I)Z"⟩, 38) := ⟨⟨by decide +kernel, by decide +kernel⟩, List.mem_of_getElem? (i := 1014) (by decide +kernel), List.mem_of_getElem? (i := 1340) (by decide +kernel), List.mem_of_getElem? (i := 1341) (by decide +kernel)⟩
theorem lw_p61 : lw_okq (⟨"LatePricesModel", "owed", "(II)I"⟩, 38) := ⟨⟨by decide +kernel, by decide +kernel⟩, List.mem_of_getElem? (i := 1014) (by decide +kernel), List.mem_of_getElem? (i := 1353) (by decide +kernel), List.mem_of_getElem? (i := 1354) (by decide +kernel)⟩
theorem lw_p62 : lw_okq (⟨"LatePricesModel", "pays", "(II)I"⟩, 38) := ⟨⟨by decide +kernel, by decide +kernel⟩, List.mem_of_getElem? (i := 1014) (by decide +kernel), List.mem_of_getElem? (i := 1357) (by decide +kernel), List.mem_of_getElem? (i := 1358) (by decide +kernel)⟩
theorem lw_p63 : lw_okq (⟨"LatePricesModel", "greatest", "(III)I"⟩, 38) := ⟨⟨by decide +kernel, by decide +kernel⟩, List.mem_of_getElem? (i := 1014) (by decide +kernel), List.mem_of_getElem? (i := 1361) (by decide +kernel), List.mem_of_getElem? (i := 1362) (by decide +kernel)⟩
def lw_privs_4 : List (MethodName × Nat) := [(⟨"LatePricesModel", "addStep", "(III)V"⟩, 38), (⟨"LatePricesModel", "isCall", "(I)Z"⟩, 38), (⟨"LatePricesModel", "its", "(II)I"⟩, 38), (⟨"LatePricesModel", "takenBack", "(I)I"⟩, 38), (⟨"LatePricesModel", "ends", "(I)I"⟩, 38), (⟨"LatePricesModel", "layStruck", "()V"⟩, 38), (⟨"LatePricesModel", "deals", "()I"⟩, 38), (⟨"LatePricesModel", "sent4", "(II)I"⟩, 38), (⟨"LatePricesModel", "isAhead", "(II)Z"⟩, 38), (⟨"LatePricesModel", "rank", "(I)I"⟩, 38), (⟨"LatePricesModel", "standsIn", "(II)Z"⟩, 38), (⟨"LatePricesModel", "seenBy", "(III)I"⟩, 38), (⟨"LatePricesModel", "isDeal", "(I)Z"⟩, 38), (⟨"LatePricesModel", "owed", "(II)I"⟩, 38), (⟨"LatePricesModel", "pays", "(II)I"⟩, 38), (⟨"LatePricesModel", "greatest", "(III)I"⟩, 38)]
theorem lw_r4 : ∀ q ∈ lw_privs_4, lw_okq q := List.forall_mem_cons.mpr ⟨lw_p48, List.forall_mem_cons.mpr ⟨lw_p49, List.forall_mem_cons.mpr ⟨lw_p50, List.forall_mem_cons.mpr ⟨lw_p51, List.forall_mem_cons.mpr ⟨lw_p52, List.forall_mem_cons.mpr ⟨lw_p53, List.forall_mem_cons.mpr ⟨lw_p54, List.forall_mem_cons.mpr ⟨lw_p55, List.forall_mem_cons.mpr ⟨lw_p56, List.forall_mem_cons.mpr ⟨lw_p57, List.forall_mem_cons.mpr ⟨lw_p58, List.forall_mem_cons.mpr ⟨lw_p59, List.forall_mem_cons.mpr ⟨lw_p60, List.forall_mem_cons.mpr ⟨lw_p61, List.forall_mem_cons.mpr ⟨lw_p62, List.forall_mem_cons.mpr ⟨lw_p63, fun _ h => absurd h List.not_mem_nil⟩⟩⟩⟩⟩⟩⟩⟩⟩⟩⟩⟩⟩⟩⟩⟩
theorem lw_p64 : lw_okq (⟨"LatePricesModel", "layGain", "(IIZ)V"⟩, 38) := ⟨⟨by decide +kernel, by decide +kernel⟩, List.mem_of_getElem? (i := 1014) (by decide +kernel), List.mem_of_getElem? (i := 1369) (by decide +kernel), List.mem_of_getElem? (i := 1370) (by decide +kernel)⟩
theorem lw_p65 : lw_okq (⟨"LatePricesModel", "isOffer", "(IIIZ)Z"⟩, 38) := ⟨⟨by decide +kernel, by decide +kernel⟩, List.mem_of_getElem? (i := 1014) (by decide +kernel), List.mem_of_getElem? (i := 1373) (by decide +kernel), List.mem_of_getElem? (i := 1374) (by decide +kernel)⟩
theorem lw_p66 : lw_okq (⟨"LatePricesModel", "bestOf", "(I)I"⟩, 38) := ⟨⟨by decide +kernel, by decide +kernel⟩, List.mem_of_getElem? (i := 1014) (by decide +kernel), List.mem_of_getElem? (i := 1377) (by decide +kernel), List.mem_of_getElem? (i := 1378) (by decide +kernel)⟩
theorem lw_p67 : lw_okq (⟨"LatePricesModel", "atMost", "(II)I"⟩, 38) := ⟨⟨by decide +kernel, by decide +kernel⟩, List.mem_of_getElem? (i := 1014) (by decide +kernel), List.mem_of_getElem? (i := 1390) (by decide +kernel), List.mem_of_getElem? (i := 1391) (by decide +kernel)⟩
theorem lw_p68 : lw_okq (⟨"LatePricesModel", "waitOf", "(II)I"⟩, 38) := ⟨⟨by decide +kernel, by decide +kernel⟩, List.mem_of_getElem? (i := 1014) (by decide +kernel), List.mem_of_getElem? (i := 1406) (by decide +kernel), List.mem_of_getElem? (i := 1407) (by decide +kernel)⟩
theorem lw_p69 : lw_okq (⟨"LatePricesModel", "layWalks", "(I)V"⟩, 38) := ⟨⟨by decide +kernel, by decide +kernel⟩, List.mem_of_getElem? (i := 1014) (by decide +kernel), List.mem_of_getElem? (i := 1425) (by decide +kernel), List.mem_of_getElem? (i := 1426) (by decide +kernel)⟩
theorem lw_p70 : lw_okq (⟨"LatePricesModel", "lossOf", "(II)J"⟩, 38) := ⟨⟨by decide +kernel, by decide +kernel⟩, List.mem_of_getElem? (i := 1014) (by decide +kernel), List.mem_of_getElem? (i := 1436) (by decide +kernel), List.mem_of_getElem? (i := 1437) (by decide +kernel)⟩
def lw_privs_5 : List (MethodName × Nat) := [(⟨"LatePricesModel", "layGain", "(IIZ)V"⟩, 38), (⟨"LatePricesModel", "isOffer", "(IIIZ)Z"⟩, 38), (⟨"LatePricesModel", "bestOf", "(I)I"⟩, 38), (⟨"LatePricesModel", "atMost", "(II)I"⟩, 38), (⟨"LatePricesModel", "waitOf", "(II)I"⟩, 38), (⟨"LatePricesModel", "layWalks", "(I)V"⟩, 38), (⟨"LatePricesModel", "lossOf", "(II)J"⟩, 38)]
theorem lw_r5 : ∀ q ∈ lw_privs_5, lw_okq q := List.forall_mem_cons.mpr ⟨lw_p64, List.forall_mem_cons.mpr ⟨lw_p65, List.forall_mem_cons.mpr ⟨lw_p66, List.forall_mem_cons.mpr ⟨lw_p67, List.forall_mem_cons.mpr ⟨lw_p68, List.forall_mem_cons.mpr ⟨lw_p69, List.forall_mem_cons.mpr ⟨lw_p70, fun _ h => absurd h List.not_mem_nil⟩⟩⟩⟩⟩⟩⟩
def lw_privs : List (MethodName × Nat) := lw_privs_1 ++ (lw_privs_2 ++ (lw_privs_3 ++ (lw_privs_4 ++ (lw_privs_5))))
def lw_tbl : List Cond := k2_sels lw_privs ++ tables_1
theorem lw_privs_ok : ∀ q ∈ lw_privs, lw_okq q := by
  show ∀ q ∈ lw_privs_1 ++ (lw_privs_2 ++ (lw_privs_3 ++ (lw_privs_4 ++ (lw_privs_5)))), lw_okq q
  exact List.forall_mem_append.mpr ⟨lw_r1, List.forall_mem_append.mpr ⟨lw_r2, List.forall_mem_append.mpr ⟨lw_r3, List.forall_mem_append.mpr ⟨lw_r4, lw_r5⟩⟩⟩⟩
-- ===== end of PART A; then your names; then what follows =====
end
section
theorem in_r {big : List Cond} (ws : List Cond) (ps : List Nat) (hp : ws = ps.filterMap (fun i => big[i]?)) : ∀ w ∈ ws, w ∈ big := by
  intro w hw
  rw [hp] at hw
  obtain ⟨i, -, hi⟩ := List.mem_filterMap.mp hw
  exact List.mem_of_getElem? hi
def RX0 : String := "LatePrices$Gains"
def TX0 : u_T := fun k => match k with
  | 0 => ("LatePrices$Gains", "news", "LLatePrices$News;", true)
  | 1 => ("LatePrices$Gains", "calls", "LLatePrices$Rows;", true)
  | 2 => ("LatePrices$Gains", "opens", "[I", true)
  | 3 => ("LatePrices$Gains", "closes", "[I", true)
  | 4 => ("LatePrices$Gains", "left", "[I", true)
  | 5 => ("LatePrices$Gains", "brings", "I", false)
  | _ => ("LatePrices$Gains", "units", "I", false)
def tyX0 : Nat → FieldType := fun k => match k with
  | 0 => .object "LatePrices$News"
  | 1 => .object "LatePrices$Rows"
  | 2 => .array .int
  | 3 => .array .int
  | 4 => .array .int
  | 5 => .int
  | _ => .int
theorem nmX0 : ∀ a, a < 7 → ∀ b, b < 7 → a ≠ b → (TX0 a).2.1 ≠ (TX0 b).2.1 := by decide +kernel
theorem tyX0_ok : ∀ k, k < 7 → parseFieldDescriptor (TX0 k).2.2.1 = some (tyX0 k) := by decide +kernel
theorem uin_0 : ∀ w ∈ u_ws RX0 TX0 7, w ∈ lw_tbl := in_r _ [372, 374, 376, 378, 380, 382, 384] (by decide +kernel)
theorem uns_0 : Cond.instantiable RX0 7 ∈ lw_tbl := List.mem_of_getElem? (i := 358) (by decide +kernel)
theorem uni_0 : Cond.initialized RX0 ∈ lw_tbl := List.mem_of_getElem? (i := 82) (by decide +kernel)
def RX1 : String := "LatePrices$Ledger"
def TX1 : u_T := fun k => match k with
  | 0 => ("LatePrices$Ledger", "plan", "LLatePrices$Plan;", true)
  | 1 => ("LatePrices$Ledger", "steps", "LLatePrices$Rows;", true)
  | 2 => ("LatePrices$Ledger", "calls", "LLatePrices$Rows;", true)
  | 3 => ("LatePrices$Ledger", "deals", "LLatePrices$Rows;", true)
  | _ => ("LatePrices$Ledger", "kept", "Z", false)
def tyX1 : Nat → FieldType := fun k => match k with
  | 0 => .object "LatePrices$Plan"
  | 1 => .object "LatePrices$Rows"
  | 2 => .object "LatePrices$Rows"
  | 3 => .object "LatePrices$Rows"
  | _ => .boolean
theorem nmX1 : ∀ a, a < 5 → ∀ b, b < 5 → a ≠ b → (TX1 a).2.1 ≠ (TX1 b).2.1 := by decide +kernel
theorem tyX1_ok : ∀ k, k < 5 → parseFieldDescriptor (TX1 k).2.2.1 = some (tyX1 k) := by decide +kernel
theorem uin_1 : ∀ w ∈ u_ws RX1 TX1 5, w ∈ lw_tbl := in_r _ [299, 301, 303, 305, 307] (by decide +kernel)
theorem uns_1 : Cond.instantiable RX1 5 ∈ lw_tbl := List.mem_of_getElem? (i := 257) (by decide +kernel)
theorem uni_1 : Cond.initialized RX1 ∈ lw_tbl := List.mem_of_getElem? (i := 78) (by decide +kernel)
def RX2 : String := "LatePrices$News"
def TX2 : u_T := fun k => match k with
  | 0 => ("LatePrices$News", "plan", "LLatePrices$Plan;", true)
  | 1 => ("LatePrices$News", "arrives", "[I", true)
  | _ => ("LatePrices$News", "leaves", "[I", true)
def tyX2 : Nat → FieldType := fun k => match k with
  | 0 => .object "LatePrices$Plan"
  | 1 => .array .int
  | _ => .array .int
theorem nmX2 : ∀ a, a < 3 → ∀ b, b < 3 → a ≠ b → (TX2 a).2.1 ≠ (TX2 b).2.1 := by decide +kernel
theorem tyX2_ok : ∀ k, k < 3 → parseFieldDescriptor (TX2 k).2.2.1 = some (tyX2 k) := by decide +kernel
theorem uin_2 : ∀ w ∈ u_ws RX2 TX2 3, w ∈ lw_tbl := in_r _ [249, 251, 253] (by decide +kernel)
theorem uns_2 : Cond.instantiable RX2 3 ∈ lw_tbl := List.mem_of_getElem? (i := 238) (by decide +kernel)
theorem uni_2 : Cond.initialized RX2 ∈ lw_tbl := List.mem_of_getElem? (i := 77) (by decide +kernel)
def RX3 : String := "LatePrices$Plan"
def TX3 : u_T := fun k => match k with
  | 0 => ("LatePrices$Plan", "prices", "[I", true)
  | 1 => ("LatePrices$Plan", "minutes", "[I", true)
  | 2 => ("LatePrices$Plan", "shutWay", "[I", true)
  | 3 => ("LatePrices$Plan", "shutFrom", "[I", true)
  | 4 => ("LatePrices$Plan", "shutTo", "[I", true)
  | 5 => ("LatePrices$Plan", "moves", "[I", true)
  | 6 => ("LatePrices$Plan", "places", "I", false)
  | 7 => ("LatePrices$Plan", "ways", "I", false)
  | 8 => ("LatePrices$Plan", "shuts", "I", false)
  | 9 => ("LatePrices$Plan", "rule", "I", false)
  | _ => ("LatePrices$Plan", "most", "I", false)
def tyX3 : Nat → FieldType := fun k => match k with
  | 0 => .array .int
  | 1 => .array .int
  | 2 => .array .int
  | 3 => .array .int
  | 4 => .array .int
  | 5 => .array .int
  | 6 => .int
  | 7 => .int
  | 8 => .int
  | 9 => .int
  | _ => .int
theorem nmX3 : ∀ a, a < 11 → ∀ b, b < 11 → a ≠ b → (TX3 a).2.1 ≠ (TX3 b).2.1 := by decide +kernel
theorem tyX3_ok : ∀ k, k < 11 → parseFieldDescriptor (TX3 k).2.2.1 = some (tyX3 k) := by decide +kernel
theorem uin_3 : ∀ w ∈ u_ws RX3 TX3 11, w ∈ lw_tbl := in_r _ [183, 185, 187, 189, 191, 193, 195, 197, 199, 201, 203] (by decide +kernel)
theorem uns_3 : Cond.instantiable RX3 11 ∈ lw_tbl := List.mem_of_getElem? (i := 132) (by decide +kernel)
theorem uni_3 : Cond.initialized RX3 ∈ lw_tbl := List.mem_of_getElem? (i := 74) (by decide +kernel)
def RX4 : String := "LatePrices$Reader"
def TX4 : u_T := fun k => match k with
  | 0 => ("LatePrices$Reader", "tape", "LLatePrices$Tape;", true)
  | 1 => ("LatePrices$Reader", "draft", "LLatePrices$Plan;", true)
  | 2 => ("LatePrices$Reader", "fault", "I", false)
  | 3 => ("LatePrices$Reader", "faultPlace", "I", false)
  | 4 => ("LatePrices$Reader", "movesTold", "Z", false)
  | 5 => ("LatePrices$Reader", "firstTold", "Z", false)
  | _ => ("LatePrices$Reader", "mostTold", "Z", false)
def tyX4 : Nat → FieldType := fun k => match k with
  | 0 => .object "LatePrices$Tape"
  | 1 => .object "LatePrices$Plan"
  | 2 => .int
  | 3 => .int
  | 4 => .boolean
  | 5 => .boolean
  | _ => .boolean
theorem nmX4 : ∀ a, a < 7 → ∀ b, b < 7 → a ≠ b → (TX4 a).2.1 ≠ (TX4 b).2.1 := by decide +kernel
theorem tyX4_ok : ∀ k, k < 7 → parseFieldDescriptor (TX4 k).2.2.1 = some (tyX4 k) := by decide +kernel
theorem uin_4 : ∀ w ∈ u_ws RX4 TX4 7, w ∈ lw_tbl := in_r _ [222, 224, 226, 228, 230, 232, 234] (by decide +kernel)
theorem uns_4 : Cond.instantiable RX4 7 ∈ lw_tbl := List.mem_of_getElem? (i := 208) (by decide +kernel)
theorem uni_4 : Cond.initialized RX4 ∈ lw_tbl := List.mem_of_getElem? (i := 76) (by decide +kernel)
def RX5 : String := "LatePrices$Rows"
def TX5 : u_T := fun k => match k with
  | 0 => ("LatePrices$Rows", "most", "I", true)
  | 1 => ("LatePrices$Rows", "width", "I", true)
  | 2 => ("LatePrices$Rows", "cells", "[I", true)
  | _ => ("LatePrices$Rows", "size", "I", false)
def tyX5 : Nat → FieldType := fun k => match k with
  | 0 => .int
  | 1 => .int
  | 2 => .array .int
  | _ => .int
theorem nmX5 : ∀ a, a < 4 → ∀ b, b < 4 → a ≠ b → (TX5 a).2.1 ≠ (TX5 b).2.1 := by decide +kernel
theorem tyX5_ok : ∀ k, k < 4 → parseFieldDescriptor (TX5 k).2.2.1 = some (tyX5 k) := by decide +kernel
theorem uin_5 : ∀ w ∈ u_ws RX5 TX5 4, w ∈ lw_tbl := in_r _ [279, 281, 283, 285] (by decide +kernel)
theorem uns_5 : Cond.instantiable RX5 4 ∈ lw_tbl := List.mem_of_getElem? (i := 263) (by decide +kernel)
theorem uni_5 : Cond.initialized RX5 ∈ lw_tbl := List.mem_of_getElem? (i := 79) (by decide +kernel)
def RX6 : String := "LatePrices$Sheet"
def TX6 : u_T := fun k => match k with
  | 0 => ("LatePrices$Sheet", "cells", "[I", true)
  | 1 => ("LatePrices$Sheet", "lane", "I", false)
  | _ => ("LatePrices$Sheet", "size", "I", false)
def tyX6 : Nat → FieldType := fun k => match k with
  | 0 => .array .int
  | 1 => .int
  | _ => .int
theorem nmX6 : ∀ a, a < 3 → ∀ b, b < 3 → a ≠ b → (TX6 a).2.1 ≠ (TX6 b).2.1 := by decide +kernel
theorem tyX6_ok : ∀ k, k < 3 → parseFieldDescriptor (TX6 k).2.2.1 = some (tyX6 k) := by decide +kernel
theorem uin_6 : ∀ w ∈ u_ws RX6 TX6 3, w ∈ lw_tbl := in_r _ [433, 435, 437] (by decide +kernel)
theorem uns_6 : Cond.instantiable RX6 3 ∈ lw_tbl := List.mem_of_getElem? (i := 424) (by decide +kernel)
theorem uni_6 : Cond.initialized RX6 ∈ lw_tbl := List.mem_of_getElem? (i := 85) (by decide +kernel)
def RX7 : String := "LatePrices$Strikes"
def TX7 : u_T := fun k => match k with
  | 0 => ("LatePrices$Strikes", "plan", "LLatePrices$Plan;", true)
  | 1 => ("LatePrices$Strikes", "news", "LLatePrices$News;", true)
  | 2 => ("LatePrices$Strikes", "calls", "LLatePrices$Rows;", true)
  | 3 => ("LatePrices$Strikes", "deals", "LLatePrices$Rows;", true)
  | 4 => ("LatePrices$Strikes", "ledger", "LLatePrices$Ledger;", true)
  | 5 => ("LatePrices$Strikes", "order", "[I", true)
  | 6 => ("LatePrices$Strikes", "taken", "[I", true)
  | 7 => ("LatePrices$Strikes", "pays", "[I", true)
  | 8 => ("LatePrices$Strikes", "left", "[I", true)
  | 9 => ("LatePrices$Strikes", "last", "[I", true)
  | 10 => ("LatePrices$Strikes", "fullAt", "[I", true)
  | _ => ("LatePrices$Strikes", "excess", "I", false)
def tyX7 : Nat → FieldType := fun k => match k with
  | 0 => .object "LatePrices$Plan"
  | 1 => .object "LatePrices$News"
  | 2 => .object "LatePrices$Rows"
  | 3 => .object "LatePrices$Rows"
  | 4 => .object "LatePrices$Ledger"
  | 5 => .array .int
  | 6 => .array .int
  | 7 => .array .int
  | 8 => .array .int
  | 9 => .array .int
  | 10 => .array .int
  | _ => .int
theorem nmX7 : ∀ a, a < 12 → ∀ b, b < 12 → a ≠ b → (TX7 a).2.1 ≠ (TX7 b).2.1 := by decide +kernel
theorem tyX7_ok : ∀ k, k < 12 → parseFieldDescriptor (TX7 k).2.2.1 = some (tyX7 k) := by decide +kernel
theorem uin_7 : ∀ w ∈ u_ws RX7 TX7 12, w ∈ lw_tbl := in_r _ [332, 334, 336, 338, 340, 342, 344, 346, 348, 350, 352, 354] (by decide +kernel)
theorem uns_7 : Cond.instantiable RX7 12 ∈ lw_tbl := List.mem_of_getElem? (i := 312) (by decide +kernel)
theorem uni_7 : Cond.initialized RX7 ∈ lw_tbl := List.mem_of_getElem? (i := 81) (by decide +kernel)
def RX8 : String := "LatePrices$Tape"
def TX8 : u_T := fun k => match k with
  | 0 => ("LatePrices$Tape", "bytes", "[B", true)
  | 1 => ("LatePrices$Tape", "length", "I", false)
  | 2 => ("LatePrices$Tape", "next", "I", false)
  | 3 => ("LatePrices$Tape", "kind", "I", false)
  | 4 => ("LatePrices$Tape", "start", "I", false)
  | _ => ("LatePrices$Tape", "value", "I", false)
def tyX8 : Nat → FieldType := fun k => match k with
  | 0 => .array .byte
  | 1 => .int
  | 2 => .int
  | 3 => .int
  | 4 => .int
  | _ => .int
theorem nmX8 : ∀ a, a < 6 → ∀ b, b < 6 → a ≠ b → (TX8 a).2.1 ≠ (TX8 b).2.1 := by decide +kernel
theorem tyX8_ok : ∀ k, k < 6 → parseFieldDescriptor (TX8 k).2.2.1 = some (tyX8 k) := by decide +kernel
theorem uin_8 : ∀ w ∈ u_ws RX8 TX8 6, w ∈ lw_tbl := in_r _ [117, 119, 121, 123, 125, 127] (by decide +kernel)
theorem uns_8 : Cond.instantiable RX8 6 ∈ lw_tbl := List.mem_of_getElem? (i := 101) (by decide +kernel)
theorem uni_8 : Cond.initialized RX8 ∈ lw_tbl := List.mem_of_getElem? (i := 73) (by decide +kernel)
def RX9 : String := "LatePrices$Waits"
def TX9 : u_T := fun k => match k with
  | 0 => ("LatePrices$Waits", "plan", "LLatePrices$Plan;", true)
  | 1 => ("LatePrices$Waits", "news", "LLatePrices$News;", true)
  | _ => ("LatePrices$Waits", "longest", "[I", true)
def tyX9 : Nat → FieldType := fun k => match k with
  | 0 => .object "LatePrices$Plan"
  | 1 => .object "LatePrices$News"
  | _ => .array .int
theorem nmX9 : ∀ a, a < 3 → ∀ b, b < 3 → a ≠ b → (TX9 a).2.1 ≠ (TX9 b).2.1 := by decide +kernel
theorem tyX9_ok : ∀ k, k < 3 → parseFieldDescriptor (TX9 k).2.2.1 = some (tyX9 k) := by decide +kernel
theorem uin_9 : ∀ w ∈ u_ws RX9 TX9 3, w ∈ lw_tbl := in_r _ [397, 399, 401] (by decide +kernel)
theorem uns_9 : Cond.instantiable RX9 3 ∈ lw_tbl := List.mem_of_getElem? (i := 388) (by decide +kernel)
theorem uni_9 : Cond.initialized RX9 ∈ lw_tbl := List.mem_of_getElem? (i := 83) (by decide +kernel)
def RX10 : String := "LatePrices$Worth"
def TX10 : u_T := fun k => match k with
  | 0 => ("LatePrices$Worth", "plan", "LLatePrices$Plan;", true)
  | 1 => ("LatePrices$Worth", "counts", "[J", true)
  | _ => ("LatePrices$Worth", "before", "[J", true)
def tyX10 : Nat → FieldType := fun k => match k with
  | 0 => .object "LatePrices$Plan"
  | 1 => .array .long
  | _ => .array .long
theorem nmX10 : ∀ a, a < 3 → ∀ b, b < 3 → a ≠ b → (TX10 a).2.1 ≠ (TX10 b).2.1 := by decide +kernel
theorem tyX10_ok : ∀ k, k < 3 → parseFieldDescriptor (TX10 k).2.2.1 = some (tyX10 k) := by decide +kernel
theorem uin_10 : ∀ w ∈ u_ws RX10 TX10 3, w ∈ lw_tbl := in_r _ [414, 416, 418] (by decide +kernel)
theorem uns_10 : Cond.instantiable RX10 3 ∈ lw_tbl := List.mem_of_getElem? (i := 405) (by decide +kernel)
theorem uni_10 : Cond.initialized RX10 ∈ lw_tbl := List.mem_of_getElem? (i := 84) (by decide +kernel)
def RX11 : String := "LatePrices"
def TX11 : u_T := fun k => match k with
  | 0 => ("LatePrices", "tape", "LLatePrices$Tape;", true)
  | 1 => ("LatePrices", "plan", "LLatePrices$Plan;", true)
  | 2 => ("LatePrices", "draft", "LLatePrices$Plan;", true)
  | 3 => ("LatePrices", "reader", "LLatePrices$Reader;", true)
  | 4 => ("LatePrices", "news", "LLatePrices$News;", true)
  | 5 => ("LatePrices", "ledger", "LLatePrices$Ledger;", true)
  | 6 => ("LatePrices", "images", "[LLatePrices$Ledger;", true)
  | 7 => ("LatePrices", "strikes", "LLatePrices$Strikes;", true)
  | 8 => ("LatePrices", "gains", "LLatePrices$Gains;", true)
  | 9 => ("LatePrices", "waiting", "LLatePrices$Waits;", true)
  | 10 => ("LatePrices", "worth", "LLatePrices$Worth;", true)
  | 11 => ("LatePrices", "sheets", "[LLatePrices$Sheet;", true)
  | 12 => ("LatePrices", "fault", "I", false)
  | _ => ("LatePrices", "torn", "I", false)
def tyX11 : Nat → FieldType := fun k => match k with
  | 0 => .object "LatePrices$Tape"
  | 1 => .object "LatePrices$Plan"
  | 2 => .object "LatePrices$Plan"
  | 3 => .object "LatePrices$Reader"
  | 4 => .object "LatePrices$News"
  | 5 => .object "LatePrices$Ledger"
  | 6 => .array (.object "LatePrices$Ledger")
  | 7 => .object "LatePrices$Strikes"
  | 8 => .object "LatePrices$Gains"
  | 9 => .object "LatePrices$Waits"
  | 10 => .object "LatePrices$Worth"
  | 11 => .array (.object "LatePrices$Sheet")
  | 12 => .int
  | _ => .int
theorem nmX11 : ∀ a, a < 14 → ∀ b, b < 14 → a ≠ b → (TX11 a).2.1 ≠ (TX11 b).2.1 := by decide +kernel
theorem tyX11_ok : ∀ k, k < 14 → parseFieldDescriptor (TX11 k).2.2.1 = some (tyX11 k) := by decide +kernel
theorem uin_11 : ∀ w ∈ u_ws RX11 TX11 14, w ∈ lw_tbl := in_r _ [454, 456, 458, 460, 462, 464, 466, 468, 470, 472, 474, 476, 478, 480] (by decide +kernel)
theorem uns_11 : Cond.instantiable RX11 14 ∈ lw_tbl := List.mem_of_getElem? (i := 93) (by decide +kernel)
theorem uni_11 : Cond.initialized RX11 ∈ lw_tbl := List.mem_of_getElem? (i := 72) (by decide +kernel)
def RX12 : String := "LatePricesModel"
def TX12 : u_T := fun k => match k with
  | 0 => ("LatePricesModel", "tape", "[I", true)
  | 1 => ("LatePricesModel", "taped", "I", false)
  | 2 => ("LatePricesModel", "fault", "I", false)
  | 3 => ("LatePricesModel", "wrong", "I", false)
  | 4 => ("LatePricesModel", "wrongAt", "I", false)
  | 5 => ("LatePricesModel", "spot", "I", false)
  | 6 => ("LatePricesModel", "place", "I", false)
  | 7 => ("LatePricesModel", "token", "I", false)
  | 8 => ("LatePricesModel", "value", "I", false)
  | 9 => ("LatePricesModel", "cuts", "[I", true)
  | 10 => ("LatePricesModel", "letters", "[I", true)
  | 11 => ("LatePricesModel", "plain", "[I", true)
  | 12 => ("LatePricesModel", "rules", "[I", true)
  | 13 => ("LatePricesModel", "prices", "[I", true)
  | 14 => ("LatePricesModel", "ways", "[I", true)
  | 15 => ("LatePricesModel", "shuts", "[I", true)
  | 16 => ("LatePricesModel", "readRules", "[I", true)
  | 17 => ("LatePricesModel", "readPrices", "[I", true)
  | 18 => ("LatePricesModel", "readWays", "[I", true)
  | 19 => ("LatePricesModel", "readShuts", "[I", true)
  | 20 => ("LatePricesModel", "toldOnes", "I", false)
  | 21 => ("LatePricesModel", "comesTo", "[I", true)
  | 22 => ("LatePricesModel", "state", "[I", true)
  | 23 => ("LatePricesModel", "arrives", "[I", true)
  | 24 => ("LatePricesModel", "struck", "[I", true)
  | 25 => ("LatePricesModel", "isGone", "[Z", true)
  | 26 => ("LatePricesModel", "isOut", "[Z", true)
  | 27 => ("LatePricesModel", "offers", "[I", true)
  | 28 => ("LatePricesModel", "gained", "I", false)
  | 29 => ("LatePricesModel", "gainedUnits", "I", false)
  | 30 => ("LatePricesModel", "walks", "[J", true)
  | 31 => ("LatePricesModel", "walksThen", "[J", true)
  | 32 => ("LatePricesModel", "allWalks", "J", false)
  | 33 => ("LatePricesModel", "isKept", "[Z", true)
  | 34 => ("LatePricesModel", "lanes", "[I", true)
  | 35 => ("LatePricesModel", "lengths", "[I", true)
  | 36 => ("LatePricesModel", "cells", "[I", true)
  | _ => ("LatePricesModel", "torn", "I", false)
def tyX12 : Nat → FieldType := fun k => match k with
  | 0 => .array .int
  | 1 => .int
  | 2 => .int
  | 3 => .int
  | 4 => .int
  | 5 => .int
  | 6 => .int
  | 7 => .int
  | 8 => .int
  | 9 => .array .int
  | 10 => .array .int
  | 11 => .array .int
  | 12 => .array .int
  | 13 => .array .int
  | 14 => .array .int
  | 15 => .array .int
  | 16 => .array .int
  | 17 => .array .int
  | 18 => .array .int
  | 19 => .array .int
  | 20 => .int
  | 21 => .array .int
  | 22 => .array .int
  | 23 => .array .int
  | 24 => .array .int
  | 25 => .array .boolean
  | 26 => .array .boolean
  | 27 => .array .int
  | 28 => .int
  | 29 => .int
  | 30 => .array .long
  | 31 => .array .long
  | 32 => .long
  | 33 => .array .boolean
  | 34 => .array .int
  | 35 => .array .int
  | 36 => .array .int
  | _ => .int
theorem nmX12 : ∀ a, a < 38 → ∀ b, b < 38 → a ≠ b → (TX12 a).2.1 ≠ (TX12 b).2.1 := by decide +kernel
theorem tyX12_ok : ∀ k, k < 38 → parseFieldDescriptor (TX12 k).2.2.1 = some (tyX12 k) := by decide +kernel
theorem uin_12 : ∀ w ∈ u_ws RX12 TX12 38, w ∈ lw_tbl := in_r _ [1128, 1130, 1132, 1134, 1136, 1138, 1140, 1142, 1144, 1146, 1148, 1150, 1152, 1154, 1156, 1158, 1160, 1162, 1164, 1166, 1168, 1170, 1172, 1174, 1176, 1178, 1180, 1182, 1184, 1186, 1188, 1190, 1192, 1194, 1196, 1198, 1200, 1202] (by decide +kernel)
theorem uns_12 : Cond.instantiable RX12 38 ∈ lw_tbl := List.mem_of_getElem? (i := 1085) (by decide +kernel)
theorem uni_12 : Cond.initialized RX12 ∈ lw_tbl := List.mem_of_getElem? (i := 86) (by decide +kernel)
abbrev CLS : List vw_C := [(RX0, TX0, 7), (RX1, TX1, 5), (RX2, TX2, 3), (RX3, TX3, 11), (RX4, TX4, 7), (RX5, TX5, 4), (RX6, TX6, 3), (RX7, TX7, 12), (RX8, TX8, 6), (RX9, TX9, 3), (RX10, TX10, 3), (RX11, TX11, 14), (RX12, TX12, 38)]
def tyOf (c : Nat) : Nat → FieldType := match c with
  | 0 => tyX0
  | 1 => tyX1
  | 2 => tyX2
  | 3 => tyX3
  | 4 => tyX4
  | 5 => tyX5
  | 6 => tyX6
  | 7 => tyX7
  | 8 => tyX8
  | 9 => tyX9
  | 10 => tyX10
  | 11 => tyX11
  | _ => tyX12
theorem u_in {ci : Nat} {q : vw_C} (h : CLS[ci]? = some q) : ∀ w ∈ u_ws q.1 q.2.1 q.2.2, w ∈ lw_tbl := by
  match ci, h with
  | 0, h => cases h; exact uin_0
  | 1, h => cases h; exact uin_1
  | 2, h => cases h; exact uin_2
  | 3, h => cases h; exact uin_3
  | 4, h => cases h; exact uin_4
  | 5, h => cases h; exact uin_5
  | 6, h => cases h; exact uin_6
  | 7, h => cases h; exact uin_7
  | 8, h => cases h; exact uin_8
  | 9, h => cases h; exact uin_9
  | 10, h => cases h; exact uin_10
  | 11, h => cases h; exact uin_11
  | 12, h => cases h; exact uin_12
  | n + 13, h => simp [CLS] at h
theorem u_nm {ci : Nat} {q : vw_C} (h : CLS[ci]? = some q) : ∀ a, a < q.2.2 → ∀ b, b < q.2.2 → a ≠ b → (q.2.1 a).2.1 ≠ (q.2.1 b).2.1 := by
  match ci, h with
  | 0, h => cases h; exact nmX0
  | 1, h => cases h; exact nmX1
  | 2, h => cases h; exact nmX2
  | 3, h => cases h; exact nmX3
  | 4, h => cases h; exact nmX4
  | 5, h => cases h; exact nmX5
  | 6, h => cases h; exact nmX6
  | 7, h => cases h; exact nmX7
  | 8, h => cases h; exact nmX8
  | 9, h => cases h; exact nmX9
  | 10, h => cases h; exact nmX10
  | 11, h => cases h; exact nmX11
  | 12, h => cases h; exact nmX12
  | n + 13, h => simp [CLS] at h
theorem u_ty {ci : Nat} {q : vw_C} (h : CLS[ci]? = some q) : ∀ k, k < q.2.2 → parseFieldDescriptor (q.2.1 k).2.2.1 = some (tyOf ci k) := by
  match ci, h with
  | 0, h => cases h; exact tyX0_ok
  | 1, h => cases h; exact tyX1_ok
  | 2, h => cases h; exact tyX2_ok
  | 3, h => cases h; exact tyX3_ok
  | 4, h => cases h; exact tyX4_ok
  | 5, h => cases h; exact tyX5_ok
  | 6, h => cases h; exact tyX6_ok
  | 7, h => cases h; exact tyX7_ok
  | 8, h => cases h; exact tyX8_ok
  | 9, h => cases h; exact tyX9_ok
  | 10, h => cases h; exact tyX10_ok
  | 11, h => cases h; exact tyX11_ok
  | 12, h => cases h; exact tyX12_ok
  | n + 13, h => simp [CLS] at h
theorem u_ns {ci : Nat} {q : vw_C} (h : CLS[ci]? = some q) : Cond.instantiable q.1 q.2.2 ∈ lw_tbl := by
  match ci, h with
  | 0, h => cases h; exact uns_0
  | 1, h => cases h; exact uns_1
  | 2, h => cases h; exact uns_2
  | 3, h => cases h; exact uns_3
  | 4, h => cases h; exact uns_4
  | 5, h => cases h; exact uns_5
  | 6, h => cases h; exact uns_6
  | 7, h => cases h; exact uns_7
  | 8, h => cases h; exact uns_8
  | 9, h => cases h; exact uns_9
  | 10, h => cases h; exact uns_10
  | 11, h => cases h; exact uns_11
  | 12, h => cases h; exact uns_12
  | n + 13, h => simp [CLS] at h
theorem u_ni {ci : Nat} {q : vw_C} (h : CLS[ci]? = some q) : Cond.initialized q.1 ∈ lw_tbl := by
  match ci, h with
  | 0, h => cases h; exact uni_0
  | 1, h => cases h; exact uni_1
  | 2, h => cases h; exact uni_2
  | 3, h => cases h; exact uni_3
  | 4, h => cases h; exact uni_4
  | 5, h => cases h; exact uni_5
  | 6, h => cases h; exact uni_6
  | 7, h => cases h; exact uni_7
  | 8, h => cases h; exact uni_8
  | 9, h => cases h; exact uni_9
  | 10, h => cases h; exact uni_10
  | 11, h => cases h; exact uni_11
  | 12, h => cases h; exact uni_12
  | n + 13, h => simp [CLS] at h
end
section
/-! THE ABSTRACT HEAP: a shape (arrays and objects by number) and what its int and long places hold -/
def gtb : List Cond := lw_tbl.filter goodWord
abbrev aC : Type := (Nat × Nat × List Nat) ⊕ (Nat × List Nat)
abbrev aH : Type := List aC × (Nat → Nat → Int32) × (Nat → Nat → Int64)
/-- the machine's side: class numbers, array classes, the first address, special values -/
abbrev aG : Type := va_G × (Nat → ClassId) × Nat × (Nat → Value)
/-- the run: the launch, the script's length and ints -/
abbrev aE : Type := Launch × Nat × (Nat → Int32)
/-- a method: name, code, locals, what it returns, kind of answer (0 none, 1 int, 2 long), parameters, room -/
abbrev aM : Type := MethodName × ByteArray × Nat × Option FieldType × Nat × Nat × Room
abbrev M_y (μ : aM) : MethodName := μ.1
abbrev M_c (μ : aM) : ByteArray := μ.2.1
abbrev M_L (μ : aM) : Nat := μ.2.2.1
abbrev M_r (μ : aM) : Option FieldType := μ.2.2.2.1
abbrev M_k (μ : aM) : Nat := μ.2.2.2.2.1
abbrev M_n (μ : aM) : Nat := μ.2.2.2.2.2.1
abbrev M_R (μ : aM) : Room := μ.2.2.2.2.2.2
abbrev g_b (g : aG) : Nat := g.2.2.1
abbrev aA (g : aG) : Nat → Prop := fun q => g.2.2.1 ≤ q
def cv (g : aG) (v : Value) : Value := match v with
  | .ref a => .ref (g.2.2.1 + a)
  | .float j => g.2.2.2 j.toNat
  | v => v
def cfv (g : aG) (h : aH) (k j code : Nat) : Value := match code with
  | 0 => .int (h.2.1 k j)
  | 1 => .long (h.2.2 k j)
  | 2 => .null
  | a + 3 => .ref (g.2.2.1 + a)
def cfs (g : aG) (h : aH) (k : Nat) (fs : List Nat) : List Value := fs.mapIdx (fun j c => cfv g h k j c)
def crv (g : aG) (c : Nat) : Option Nat := match c with
  | a + 3 => some (g.2.2.1 + a)
  | _ => none
def crf (g : aG) (rs : List Nat) : Nat → Option Nat := fun i => crv g (rs.getD i 2)
def ccell (g : aG) (h : aH) (k : Nat) (c : aC) : va_E := match c with
  | .inr (ci, fs) => .inr (ci, cfs g h k fs)
  | .inl (t, n, rs) => .inl (g.2.1 t, n, if t < 3 then .inl (h.2.1 k) else if t = 3 then .inr (.inl (h.2.2 k)) else .inr (.inr (.inr (.inr (crf g rs)))))
def cw (g : aG) (h : aH) : va_W := h.1.mapIdx (fun k c => (g.2.2.1 + k, ccell g h k c))
def aT (g : aG) : List (ClassId × FieldType) := [(g.2.1 0, .int), (g.2.1 1, .byte), (g.2.1 2, .boolean), (g.2.1 3, .long), (g.2.1 4, .object "LatePrices$Ledger"), (g.2.1 5, .object "LatePrices$Sheet")]
theorem cw_at {g : aG} {h : aH} {k : Nat} {c : aC} (hs : h.1[k]? = some c) : (cw g h)[k]? = some (g.2.2.1 + k, ccell g h k c) := by
  simp [cw, List.getElem?_mapIdx, hs]
theorem cw_D (g : aG) (h : aH) : va_D (aA g) (cw g h) := by
  refine ⟨fun i j p q hp hq e => ?_, fun k q hq => ?_⟩
  · simp only [cw, List.getElem?_mapIdx, Option.map_eq_some_iff] at hp hq
    obtain ⟨a, -, rfl⟩ := hp
    obtain ⟨b, -, rfl⟩ := hq
    simp only at e
    omega
  · simp only [cw, List.getElem?_mapIdx, Option.map_eq_some_iff] at hq
    obtain ⟨a, -, rfl⟩ := hq
    exact Nat.le_add_right _ _
theorem cfs_at {g : aG} {h : aH} {k j c : Nat} {fs : List Nat} (hf : fs[j]? = some c) : (cfs g h k fs)[j]? = some (cfv g h k j c) := by
  simp [cfs, List.getElem?_mapIdx, hf]
theorem cfs_len {g : aG} {h : aH} {k : Nat} {fs : List Nat} : (cfs g h k fs).length = fs.length := by simp [cfs]
/-- writing an int place -/
def hI (h : aH) (a i : Nat) (v : Int32) : aH := (h.1, fun b => if b = a then upd (h.2.1 a) i v else h.2.1 b, h.2.2)
def hJ (h : aH) (a i : Nat) (v : Int64) : aH := (h.1, h.2.1, fun b => if b = a then vp_updL (h.2.2 a) i v else h.2.2 b)
/-- copying so many places of one array over another's -/
def hCI (h : aH) (a b sp dp n : Nat) : aH := (h.1, fun q => if q = b then va_cpy (h.2.1 a) (h.2.1 b) sp dp n else h.2.1 q, h.2.2)
def hCJ (h : aH) (a b sp dp n : Nat) : aH := (h.1, h.2.1, fun q => if q = b then va_cpy (h.2.2 a) (h.2.2 b) sp dp n else h.2.2 q)
/-- a new cell, all 0 -/
def hN (h : aH) (c : aC) : aH := (h.1 ++ [c], fun b => if b = h.1.length then fun _ => 0 else h.2.1 b, fun b => if b = h.1.length then fun _ => 0 else h.2.2 b)
/-- a reference put into a field or an array -/
def hR (h : aH) (a j code : Nat) : aH := (h.1.modify a (fun c => match c with
  | .inr (ci, fs) => .inr (ci, fs.set j code)
  | .inl (t, n, rs) => .inl (t, n, rs.set j code)), h.2)
theorem ccell_other {g : aG} {h h' : aH} {k : Nat} (e1 : h'.2.1 k = h.2.1 k) (e2 : h'.2.2 k = h.2.2 k) (c : aC) : ccell g h' k c = ccell g h k c := by
  have e3 : ∀ j code, cfv g h' k j code = cfv g h k j code := by
    intro j code
    unfold cfv
    split
    · rw [e1]
    · rw [e2]
    · rfl
    · rfl
  unfold ccell
  split
  · simp only [cfs, e3]
  · simp only [e1, e2]
theorem cw_set {g : aG} {h h' : aH} {a : Nat} {c c' : aC} (hs : h.1[a]? = some c) (hs' : h'.1[a]? = some c') (hl : h'.1.length = h.1.length) (ho : ∀ k : Nat, k ≠ a → h'.1[k]? = h.1[k]? ∧ h'.2.1 k = h.2.1 k ∧ h'.2.2 k = h.2.2 k) {e : va_E} (he : ccell g h' a c' = e) : (cw g h).set a (g.2.2.1 + a, e) = cw g h' := by
  apply List.ext_getElem?
  intro k
  rw [List.getElem?_set]
  by_cases hk : a = k
  · subst hk
    have hlt : a < (cw g h).length := by
      have := (List.getElem?_eq_some_iff.mp hs).1
      simpa [cw] using this
    rw [if_pos rfl, if_pos hlt, cw_at hs', he]
  · rw [if_neg hk]
    obtain ⟨o1, o2, o3⟩ := ho k (fun q => hk q.symm)
    simp only [cw, List.getElem?_mapIdx, o1]
    cases h.1[k]? with
    | none => rfl
    | some x => simp only [Option.map_some, ccell_other o2 o3]
theorem hI_o {h : aH} {a i : Nat} {v : Int32} : ∀ k : Nat, k ≠ a → (hI h a i v).1[k]? = h.1[k]? ∧ (hI h a i v).2.1 k = h.2.1 k ∧ (hI h a i v).2.2 k = h.2.2 k := fun k hk => ⟨rfl, by simp [hI, hk], rfl⟩
theorem hJ_o {h : aH} {a i : Nat} {v : Int64} : ∀ k : Nat, k ≠ a → (hJ h a i v).1[k]? = h.1[k]? ∧ (hJ h a i v).2.1 k = h.2.1 k ∧ (hJ h a i v).2.2 k = h.2.2 k := fun k hk => ⟨rfl, rfl, by simp [hJ, hk]⟩
theorem hCI_o {h : aH} {a b sp dp n : Nat} : ∀ k : Nat, k ≠ b → (hCI h a b sp dp n).1[k]? = h.1[k]? ∧ (hCI h a b sp dp n).2.1 k = h.2.1 k ∧ (hCI h a b sp dp n).2.2 k = h.2.2 k := fun k hk => ⟨rfl, by simp [hCI, hk], rfl⟩
theorem hCJ_o {h : aH} {a b sp dp n : Nat} : ∀ k : Nat, k ≠ b → (hCJ h a b sp dp n).1[k]? = h.1[k]? ∧ (hCJ h a b sp dp n).2.1 k = h.2.1 k ∧ (hCJ h a b sp dp n).2.2 k = h.2.2 k := fun k hk => ⟨rfl, rfl, by simp [hCJ, hk]⟩
theorem hR_o {h : aH} {a j code : Nat} : ∀ k : Nat, k ≠ a → (hR h a j code).1[k]? = h.1[k]? ∧ (hR h a j code).2.1 k = h.2.1 k ∧ (hR h a j code).2.2 k = h.2.2 k := fun k hk => ⟨by have ha : ¬ a = k := fun q => hk q.symm; simp [hR, List.getElem?_modify, ha], rfl, rfl⟩
theorem hR_len {h : aH} {a j code : Nat} : (hR h a j code).1.length = h.1.length := by simp [hR]
theorem cw_I {g : aG} {h : aH} {a t n : Nat} {rs : List Nat} (hs : h.1[a]? = some (.inl (t, n, rs))) (ht : t < 3) : (cw g h)[a]? = some (g.2.2.1 + a, .inl (g.2.1 t, n, .inl (h.2.1 a))) := by
  rw [cw_at hs]; simp only [ccell, if_pos ht]
theorem cw_J {g : aG} {h : aH} {a n : Nat} {rs : List Nat} (hs : h.1[a]? = some (.inl (3, n, rs))) : (cw g h)[a]? = some (g.2.2.1 + a, .inl (g.2.1 3, n, .inr (.inl (h.2.2 a)))) := by
  rw [cw_at hs]; simp [ccell]
theorem cw_Q {g : aG} {h : aH} {a t n : Nat} {rs : List Nat} (hs : h.1[a]? = some (.inl (t + 4, n, rs))) : (cw g h)[a]? = some (g.2.2.1 + a, .inl (g.2.1 (t + 4), n, .inr (.inr (.inr (.inr (crf g rs)))))) := by
  rw [cw_at hs]; simp [ccell]
theorem cw_O {g : aG} {h : aH} {a ci : Nat} {fs : List Nat} (hs : h.1[a]? = some (.inr (ci, fs))) : (cw g h)[a]? = some (g.2.2.1 + a, .inr (ci, cfs g h a fs)) := cw_at hs
theorem cw_setI {g : aG} {h : aH} {a t n i : Nat} {rs : List Nat} {v : Int32} (hs : h.1[a]? = some (.inl (t, n, rs))) (ht : t < 3) : (cw g h).set a (g.2.2.1 + a, .inl (g.2.1 t, n, .inl (upd (h.2.1 a) i v))) = cw g (hI h a i v) := by
  refine cw_set hs (h' := hI h a i v) hs rfl hI_o ?_
  simp [ccell, ht, hI]
theorem cw_setJ {g : aG} {h : aH} {a n i : Nat} {rs : List Nat} {v : Int64} (hs : h.1[a]? = some (.inl (3, n, rs))) : (cw g h).set a (g.2.2.1 + a, .inl (g.2.1 3, n, .inr (.inl (vp_updL (h.2.2 a) i v)))) = cw g (hJ h a i v) := by
  refine cw_set hs (h' := hJ h a i v) hs rfl hJ_o ?_
  simp [ccell, hJ]
theorem cw_setCI {g : aG} {h : aH} {a b t n sp dp k : Nat} {rs : List Nat} (hs : h.1[b]? = some (.inl (t, n, rs))) (ht : t < 3) : (cw g h).set b (g.2.2.1 + b, .inl (g.2.1 t, n, .inl (va_cpy (h.2.1 a) (h.2.1 b) sp dp k))) = cw g (hCI h a b sp dp k) := by
  refine cw_set hs (h' := hCI h a b sp dp k) hs rfl hCI_o ?_
  simp [ccell, ht, hCI]
theorem cw_setCJ {g : aG} {h : aH} {a b n sp dp k : Nat} {rs : List Nat} (hs : h.1[b]? = some (.inl (3, n, rs))) : (cw g h).set b (g.2.2.1 + b, .inl (g.2.1 3, n, .inr (.inl (va_cpy (h.2.2 a) (h.2.2 b) sp dp k)))) = cw g (hCJ h a b sp dp k) := by
  refine cw_set hs (h' := hCJ h a b sp dp k) hs rfl hCJ_o ?_
  simp [ccell, hCJ]
theorem cw_putI {g : aG} {h : aH} {a ci j : Nat} {fs : List Nat} {v : Int32} (hs : h.1[a]? = some (.inr (ci, fs))) (hf : fs[j]? = some 0) : (cw g h).set a (g.2.2.1 + a, .inr (ci, (cfs g h a fs).set j (.int v))) = cw g (hI h a j v) := by
  refine cw_set hs (h' := hI h a j v) hs rfl hI_o ?_
  simp only [ccell]
  congr 2
  apply List.ext_getElem?
  intro k
  rw [List.getElem?_set]
  by_cases hk : j = k
  · subst hk
    have hl := (List.getElem?_eq_some_iff.mp hf).1
    rw [if_pos rfl, if_pos (by rw [cfs_len]; exact hl), cfs_at hf]
    simp [cfv, hI, upd]
  · rw [if_neg hk]
    simp only [cfs, List.getElem?_mapIdx]
    congr 1
    funext c
    unfold cfv
    have hk2 : ¬ k = j := fun q => hk q.symm
    split <;> simp [hI, upd, hk2]
theorem cw_putJ {g : aG} {h : aH} {a ci j : Nat} {fs : List Nat} {v : Int64} (hs : h.1[a]? = some (.inr (ci, fs))) (hf : fs[j]? = some 1) : (cw g h).set a (g.2.2.1 + a, .inr (ci, (cfs g h a fs).set j (.long v))) = cw g (hJ h a j v) := by
  refine cw_set hs (h' := hJ h a j v) hs rfl hJ_o ?_
  simp only [ccell]
  congr 2
  apply List.ext_getElem?
  intro k
  rw [List.getElem?_set]
  by_cases hk : j = k
  · subst hk
    have hl := (List.getElem?_eq_some_iff.mp hf).1
    rw [if_pos rfl, if_pos (by rw [cfs_len]; exact hl), cfs_at hf]
    simp [cfv, hJ, vp_updL]
  · rw [if_neg hk]
    simp only [cfs, List.getElem?_mapIdx]
    congr 1
    funext c
    unfold cfv
    have hk2 : ¬ k = j := fun q => hk q.symm
    split <;> simp [hJ, vp_updL, hk2]
theorem cw_putR {g : aG} {h : aH} {a b ci j : Nat} {fs : List Nat} (hs : h.1[a]? = some (.inr (ci, fs))) (hj : j < fs.length) : (cw g h).set a (g.2.2.1 + a, .inr (ci, (cfs g h a fs).set j (.ref (g.2.2.1 + b)))) = cw g (hR h a j (b + 3)) := by
  refine cw_set hs (h' := hR h a j (b + 3)) (c' := .inr (ci, fs.set j (b + 3))) (by simp [hR, List.getElem?_modify, hs]) hR_len hR_o ?_
  simp only [ccell]
  congr 2
  apply List.ext_getElem?
  intro k
  simp only [cfs, List.getElem?_mapIdx, List.getElem?_set]
  by_cases hk : j = k
  · subst hk
    simp [hj, cfv]
  · simp only [if_neg hk, List.getElem?_mapIdx]
    rfl
theorem cw_setR {g : aG} {h : aH} {a b t n i : Nat} {rs : List Nat} (hs : h.1[a]? = some (.inl (t + 4, n, rs))) (hi : i < rs.length) : (cw g h).set a (g.2.2.1 + a, .inl (g.2.1 (t + 4), n, .inr (.inr (.inr (.inr (va_up (crf g rs) i (some (g.2.2.1 + b)))))))) = cw g (hR h a i (b + 3)) := by
  refine cw_set hs (h' := hR h a i (b + 3)) (c' := .inl (t + 4, n, rs.set i (b + 3))) (by simp [hR, List.getElem?_modify, hs]) hR_len hR_o ?_
  have e : crf g (rs.set i (b + 3)) = va_up (crf g rs) i (some (g.2.2.1 + b)) := by
    funext q
    simp only [crf, va_up, List.getD_eq_getElem?_getD, List.getElem?_set]
    by_cases hq : i = q
    · subst hq
      simp [hi, crv]
    · rw [if_neg hq, if_neg (fun z => hq z.symm)]
  simp [ccell, e]
/-- a new cell at the end -/
theorem cw_new {g : aG} {h : aH} {c : aC} {e : va_E} (he : ccell g (hN h c) h.1.length c = e) : cw g h ++ [(g.2.2.1 + h.1.length, e)] = cw g (hN h c) := by
  apply List.ext_getElem?
  intro k
  have hl : (cw g h).length = h.1.length := by simp [cw]
  rcases Nat.lt_trichotomy k h.1.length with hk | hk | hk
  · rw [List.getElem?_append_left (by omega)]
    have e1 : (hN h c).1[k]? = h.1[k]? := by simp [hN, List.getElem?_append_left hk]
    simp only [cw, List.getElem?_mapIdx, e1]
    cases h.1[k]? with
    | none => rfl
    | some x => simp only [Option.map_some]; rw [ccell_other (h' := hN h c) (h := h) (by simp [hN, Nat.ne_of_lt hk]) (by simp [hN, Nat.ne_of_lt hk])]
  · subst hk
    rw [List.getElem?_append_right (by omega), hl, Nat.sub_self, cw_at (c := c) (by simp [hN]), he]
    rfl
  · rw [List.getElem?_eq_none (by simp [hl]; omega), List.getElem?_eq_none (by simp [cw, hN]; omega)]
end
section
def sIdx : List Nat := [69, 78, 83, 88, 93, 142, 147, 149, 98]
def sTxt : List String := ["place", "way", "shut", "moves", "first", "sent", "near", "number", "most"]
def sLen : List Nat := [5, 3, 4, 5, 5, 4, 4, 6, 4]
def sByt : List (List Int32) := [[112, 108, 97, 99, 101], [119, 97, 121], [115, 104, 117, 116], [109, 111, 118, 101, 115], [102, 105, 114, 115, 116], [115, 101, 110, 116], [110, 101, 97, 114], [110, 117, 109, 98, 101, 114], [109, 111, 115, 116]]
def wNest0 : Cond := .methodLinkNest "LatePrices" 9 ⟨"LatePrices$Tape", "<init>", "()V"⟩ "LatePrices"
def wNest1 : Cond := .methodLinkNest "LatePrices" 95 ⟨"LatePrices$Sheet", "<init>", "()V"⟩ "LatePrices"
/-- what lies below the first address: the nine texts, two statics, the script; words that a call hands on in another way -/
def aX (E : aE) (g : aG) (U : State) : Prop :=
  (∃ adK adV : Nat → Nat, (∀ j, j < 9 → g.2.2.2 j = .ref (adK j) ∧ g.2.2.2 (16 + j) = .ref (adV j)) ∧ vk_S 9 sLen sByt adK adV (aA g) U U.heap ∧ ∀ j, j < 9 → vk_R "LatePrices$Reader" (sIdx.getD j 0) (sTxt.getD j "") (adK j) U)
  ∧ va_Z "java/lang/String" "COMPACT_STRINGS" "Z" (.int 1) (aA g) U U.heap
  ∧ va_Z "jdk/internal/util/Preconditions" "SIOOBE_FORMATTER" "Ljava/util/function/BiFunction;" (g.2.2.2 33) (aA g) U U.heap
  ∧ (∃ b : Nat, g.2.2.2 32 = .ref b ∧ b < g.2.2.1 ∧ va_X b E.2.1 E.2.2 U U.heap)
  ∧ va_AO "LatePrices$Ledger" U ∧ va_AO "LatePrices$Sheet" U ∧ va_Nw wNest0 U ∧ va_Nw wNest1 U ∧ ∀ j, (g.2.2.2 j).category = 1
theorem aX_moved {E : aE} {g : aG} {s U : State} {H : Heap} {locs : List Loc} (h : aX E g s) (hb : g.2.2.1 ≤ s.heap.size) (hS : va_S (aA g) s.heap H locs) (hW : s.WarmedH U.vm) (hU : U.heap = H) : aX E g U := by
  subst hU
  obtain ⟨⟨adK, adV, h1, h2, h3⟩, h4, h5, ⟨b, h6, h7, h8⟩, h9, h10, h11, h12, h13⟩ := h
  have hk : ∀ a : Nat, a < s.heap.size → ¬ aA g a → U.heap[a]? = s.heap[a]? := fun a q1 q2 => hS.2.1 a q1 q2
  refine ⟨⟨adK, adV, h1, (h2.kept hk).moved hW.alike, fun j hj => (h3 j hj).warm hW⟩, (h4.kept hk).moved hW.alike, (h5.kept hk).moved hW.alike, ⟨b, h6, h7, (h8.kept (hk b (by omega) (by show ¬ g.2.2.1 ≤ b; omega))).moved hW.alike⟩, h9.moved hW.alike, h10.moved hW.alike, va_Nw.warmM hW h11, va_Nw.warmM hW h12, h13⟩
theorem aX_calling {E : aE} {g : aG} {U : State} {f : JFrame} {mk : MethodId} {a : Array Value} (h : aX E g U) : aX E g (U.calling f mk a) := by
  obtain ⟨⟨adK, adV, h1, h2, h3⟩, h4, h5, ⟨b, h6, h7, h8⟩, h9, h10, h11, h12, h13⟩ := h
  have e : U.vm.Alike (U.calling f mk a).vm := Vm.Alike.refl U.vm
  refine ⟨⟨adK, adV, h1, h2.moved e, fun j hj => (h3 j hj).same rfl⟩, h4.moved e, h5.moved e, ⟨b, h6, h7, h8.moved e⟩, h9.moved e, h10.moved e, va_Nw.same rfl rfl h11, va_Nw.same rfl rfl h12, h13⟩
def aF (E : aE) (g : aG) (μ : aM) (p : Program) (s : State) (m : MethodId) (args : Array Value) (meth : Method) (c : Code) : Prop :=
  p.tables.exec = Jvm.exec ∧ c.code = M_c μ ∧ c.maxLocals = M_L μ ∧ meth.sig.returnType = M_r μ ∧ meth.locks = false ∧ meth.name = (M_y μ).name ∧ s.vm.findClass (M_y μ).cls = some m.cls ∧ (∀ w ∈ gtb, w.before args s = true) ∧ va_K g.1 CLS (aT g) s ∧ g.2.2.1 ≤ s.heap.size ∧ aX E g s
def aW (g : aG) (h : aH) (H : Heap) (s : State) (locs : List Loc) (c : Nat × Nat) : Prop := va_P g.1 CLS (cw g h) H ∧ va_S (aA g) s.heap H locs ∧ s.heap.size + c.1 = g.2.2.1 + h.1.length
def isJ (v : Value) : Bool := match v with
  | .retAddr _ => true
  | .double _ => true
  | _ => false
def aL (g : aG) (L : List Value) (ls : Array Slot) (nL : Nat) : Prop := ls.size = nL ∧ lv_wf ls ∧ ∀ (i : Nat) (v : Value), L[i]? = some v → isJ v = false → ls[i]? = some (.val (cv g v))
def aLl (g : aG) (L : List Value) : List (Nat × Value) := (List.range L.length).filterMap (fun i => (L[i]?).bind (fun v => if isJ v then none else some (i, cv g v)))
theorem aLl_mem {g : aG} {L : List Value} {q : Nat × Value} : q ∈ aLl g L ↔ ∃ v, L[q.1]? = some v ∧ isJ v = false ∧ q.2 = cv g v := by
  unfold aLl
  rw [List.mem_filterMap]
  constructor
  · rintro ⟨i, hi, h⟩
    cases hv : L[i]? with
    | none => rw [hv] at h; cases h
    | some v =>
      rw [hv] at h
      simp only [Option.bind_some] at h
      split at h
      · cases h
      · rename_i hj
        cases h
        exact ⟨v, hv, by simpa using hj, rfl⟩
  · rintro ⟨v, h1, h2, h3⟩
    refine ⟨q.1, List.mem_range.mpr (List.getElem?_eq_some_iff.mp h1).1, ?_⟩
    rw [h1]
    simp only [Option.bind_some, h2]
    rw [← h3]
    rfl
theorem aL_has {g : aG} {L : List Value} {ls : Array Slot} {nL : Nat} (h : aL g L ls nL) : lv_has ls nL (aLl g L) := by
  refine ⟨h.1, h.2.1, fun q hq => ?_⟩
  obtain ⟨v, h1, h2, h3⟩ := aLl_mem.mp hq
  rw [h3]
  exact h.2.2 q.1 v h1 h2
theorem aL_idx {g : aG} {L : List Value} {i : Nat} {v : Value} (hl : L[i]? = some v) (hj : isJ v = false) : ∃ q : Nat, (aLl g L)[q]? = some (i, cv g v) := by
  have : (i, cv g v) ∈ aLl g L := aLl_mem.mpr ⟨v, hl, hj, rfl⟩
  exact List.getElem?_of_mem this
/-- a long ahead of a place that is written is gone -/
def kl (L : List Value) (i : Nat) : List Value := match i with
  | 0 => L
  | j + 1 => match L[j]? with
    | some (.long _) => L.set j (.retAddr 0)
    | _ => L
def aset1 (L : List Value) (i : Nat) (v : Value) : List Value := (kl L i).set i v
def aset2 (L : List Value) (i : Nat) (v : Value) : List Value := ((kl L i).set i v).set (i + 1) (.retAddr 0)
theorem kl_at {L : List Value} {i j : Nat} {v : Value} (h : (kl L i)[j]? = some v) (hv : isJ v = false) : L[j]? = some v ∧ ¬ (j + 1 = i ∧ ∃ x, v = .long x) := by
  unfold kl at h
  split at h
  · exact ⟨h, by omega⟩
  · rename_i k
    split at h
    · rename_i x hx
      rw [List.getElem?_set] at h
      split at h
      · rename_i e
        subst e
        split at h
        · cases h; cases hv
        · cases h
      · rename_i e
        exact ⟨h, fun q => e (by omega)⟩
    · rename_i hn
      refine ⟨h, fun q => ?_⟩
      obtain ⟨q1, x, rfl⟩ := q
      have : j = k := by omega
      subst this
      exact hn x h
theorem F_w {E : aE} {g : aG} {μ : aM} {p : Program} {s : State} {m : MethodId} {args : Array Value} {meth : Method} {c : Code} (h : aF E g μ p s m args meth c) : ∀ w ∈ gtb, w.before args s = true := h.2.2.2.2.2.2.2.1
theorem F_o {E : aE} {g : aG} {μ : aM} {p : Program} {s : State} {m : MethodId} {args : Array Value} {meth : Method} {c : Code} (h : aF E g μ p s m args meth c) : s.vm.findClass (M_y μ).cls = some m.cls := h.2.2.2.2.2.2.1
theorem F_k {E : aE} {g : aG} {μ : aM} {p : Program} {s : State} {m : MethodId} {args : Array Value} {meth : Method} {c : Code} (h : aF E g μ p s m args meth c) : va_K g.1 CLS (aT g) s := h.2.2.2.2.2.2.2.2.1
theorem F_b {E : aE} {g : aG} {μ : aM} {p : Program} {s : State} {m : MethodId} {args : Array Value} {meth : Method} {c : Code} (h : aF E g μ p s m args meth c) : g.2.2.1 ≤ s.heap.size := h.2.2.2.2.2.2.2.2.2.1
theorem F_X {E : aE} {g : aG} {μ : aM} {p : Program} {s : State} {m : MethodId} {args : Array Value} {meth : Method} {c : Code} (h : aF E g μ p s m args meth c) : aX E g s := h.2.2.2.2.2.2.2.2.2.2
theorem aX_cat {E : aE} {g : aG} {U : State} (h : aX E g U) : ∀ j, (g.2.2.2 j).category = 1 := h.2.2.2.2.2.2.2.2
theorem cv_cat {g : aG} (hc : ∀ j, (g.2.2.2 j).category = 1) (v : Value) : (cv g v).category = v.category := by
  cases v <;> first | rfl | exact hc _
theorem aL_set1 {g : aG} {L : List Value} {ls' : Array Slot} {nL i : Nat} {v : Value} (hc : ∀ j, (g.2.2.2 j).category = 1) (h : lv_has ls' nL ((i, cv g v) :: (aLl g L).filter (fun q => !(q.1 == i) && !(q.1 + 1 == i && q.2.category == 2)))) : aL g (aset1 L i v) ls' nL := by
  refine ⟨h.1, h.2.1, fun j w hw hj => ?_⟩
  refine h.2.2 (j, cv g w) ?_
  unfold aset1 at hw
  rw [List.getElem?_set] at hw
  by_cases e : i = j
  · subst e
    rw [if_pos rfl] at hw
    split at hw
    · cases hw; exact List.mem_cons_self
    · cases hw
  · rw [if_neg e] at hw
    obtain ⟨h1, h2⟩ := kl_at hw hj
    refine List.mem_cons_of_mem _ (List.mem_filter.mpr ⟨aLl_mem.mpr ⟨w, h1, hj, rfl⟩, ?_⟩)
    have e2 : ¬ j = i := fun q => e q.symm
    by_cases e3 : j + 1 = i
    · have : ¬ (cv g w).category = 2 := by
        rw [cv_cat hc]
        intro q
        cases w <;> simp [Value.category] at q
        · exact h2 ⟨e3, _, rfl⟩
        · cases hj
      simp [e2, this]
    · simp [e2, e3]
theorem aL_set2 {g : aG} {L : List Value} {ls' : Array Slot} {nL i : Nat} {v : Value} (hc : ∀ j, (g.2.2.2 j).category = 1) (h : lv_has ls' nL ((i, cv g v) :: (aLl g L).filter (fun q => !(q.1 == i) && (!(q.1 == i + 1) && !(q.1 + 1 == i && q.2.category == 2))))) : aL g (aset2 L i v) ls' nL := by
  refine ⟨h.1, h.2.1, fun j w hw hj => ?_⟩
  refine h.2.2 (j, cv g w) ?_
  unfold aset2 at hw
  rw [List.getElem?_set] at hw
  by_cases e0 : i + 1 = j
  · subst e0
    rw [if_pos rfl] at hw
    split at hw
    · cases hw; cases hj
    · cases hw
  rw [if_neg e0, List.getElem?_set] at hw
  by_cases e : i = j
  · subst e
    rw [if_pos rfl] at hw
    split at hw
    · cases hw; exact List.mem_cons_self
    · cases hw
  · rw [if_neg e] at hw
    obtain ⟨h1, h2⟩ := kl_at hw hj
    refine List.mem_cons_of_mem _ (List.mem_filter.mpr ⟨aLl_mem.mpr ⟨w, h1, hj, rfl⟩, ?_⟩)
    have e2 : ¬ j = i := fun q => e q.symm
    have e4 : ¬ j = i + 1 := fun q => e0 q.symm
    by_cases e3 : j + 1 = i
    · have : ¬ (cv g w).category = 2 := by
        rw [cv_cat hc]
        intro q
        cases w <;> simp [Value.category] at q
        · exact h2 ⟨e3, _, rfl⟩
        · cases hj
      simp [e2, e4, this]
    · simp [e2, e3, e4]
def aSp (j : UInt32) : Prop := j.toNat < 9 ∨ (16 ≤ j.toNat ∧ j.toNat < 25) ∨ j.toNat = 32
theorem aSp_ref {E : aE} {g : aG} {s : State} {j : UInt32} (h : aX E g s) (hj : aSp j) : ∃ b, g.2.2.2 j.toNat = .ref b := by
  obtain ⟨⟨adK, adV, h1, -⟩, -, -, ⟨b, h6, -⟩, -⟩ := h
  rcases hj with hj | ⟨ha, hb⟩ | hj
  · exact ⟨_, (h1 _ hj).1⟩
  · have := (h1 (j.toNat - 16) (by omega)).2
    rw [show 16 + (j.toNat - 16) = j.toNat by omega] at this
    exact ⟨_, this⟩
  · rw [hj]; exact ⟨b, h6⟩
def aB (g : aG) (h : aH) (t : State) : Prop := va_P g.1 CLS (cw g h) t.heap
/-- how many cells a method has made: it and the heap agree -/
def aZ (μ : aM) (g : aG) (st : State) (u : aH) : Prop := st.heap.size + (M_R μ).cells = g.2.2.1 + u.1.length
def rQ (μ : aM) (K : Value → aH → Prop) (g : aG) : Array Value → State → Outcome → State → Prop := fun a st oc t => match M_k μ with
  | 0 => va_Qv (fun u => K .null u ∧ aZ μ g st u) (aB g) (aA g) a st oc t
  | 1 => va_Qi (fun r u => K (.int r) u ∧ aZ μ g st u) (aB g) (aA g) a st oc t
  | _ => va_Ql (fun r u => K (.long r) u ∧ aZ μ g st u) (aB g) (aA g) a st oc t
/-- THE JUDGEMENT: from here the method returns, and answer and heap are as K says -/
def V (E : aE) (μ : aM) (K : Value → aH → Prop) (pc : Nat) (L st : List Value) (h : aH) (c : Nat × Nat) : Prop :=
  ∀ (g : aG) (p : Program) (e : Env) (s : State) (m : MethodId) (args : Array Value) (below : List Frame) (meth : Method) (cd : Code) (H : Heap) (locs : List Loc) (ls : Array Slot),
    aF E g μ p s m args meth cd → aW g h H s locs c → aL g L ls (M_L μ) →
    W p E.1 e (M_R μ) s m args below meth cd H locs c.1 c.2 (MQ below (rQ μ K g) args s (M_R μ).cells (M_R μ).slots (aA g)) (F0 m pc ls (st.map (cv g)))
def Dc (cc : ByteArray) (pc : Nat) (i : Instr) (n npc : Nat) : Prop := decode cc pc = .ok (i, n) ∧ pc + n = npc
def Dj (cc : ByteArray) (pc : Nat) (i : Instr) (n npc : Nat) (off : Int) (tgt : Nat) : Prop := decode cc pc = .ok (i, n) ∧ pc + n = npc ∧ (pc : Int) + off = (tgt : Int)

section VR
variable {E : aE} {μ : aM} {K : Value → aH → Prop} {pc npc tgt : Nat} {L : List Value} {st : List Value} {h : aH} {c : Nat × Nat}
theorem V_iload {i : Nat} {x : Int32} (hd : Dc (M_c μ) pc (.iload i) 2 npc) (hl : L[i]? = some (.int x)) (k : V E μ K npc L (.int x :: st) h c) : V E μ K pc L (st) h c := by
  obtain ⟨hdg, rfl⟩ := hd
  intro g p e s m args below meth cd H locs ls hF hW hL
  exact lv_iload hF.1 hF.2.1 hdg (hL.2.2 i _ hl rfl) (k g p e s m args below meth cd H locs ls hF hW hL)
theorem V_iload_n {i : Fin 4} {x : Int32} (hd : Dc (M_c μ) pc (.iload_n i) 1 npc) (hl : L[i.1]? = some (.int x)) (k : V E μ K npc L (.int x :: st) h c) : V E μ K pc L (st) h c := by
  obtain ⟨hdg, rfl⟩ := hd
  intro g p e s m args below meth cd H locs ls hF hW hL
  exact lv_iload_n hF.1 hF.2.1 hdg rfl (hL.2.2 i.1 _ hl rfl) (k g p e s m args below meth cd H locs ls hF hW hL)
theorem V_aload {i : Nat} {x : Nat} (hd : Dc (M_c μ) pc (.aload i) 2 npc) (hl : L[i]? = some (.ref x)) (k : V E μ K npc L (.ref x :: st) h c) : V E μ K pc L (st) h c := by
  obtain ⟨hdg, rfl⟩ := hd
  intro g p e s m args below meth cd H locs ls hF hW hL
  exact lv_aload hF.1 hF.2.1 hdg (hL.2.2 i _ hl rfl) (k g p e s m args below meth cd H locs ls hF hW hL)
theorem V_aload_n {i : Fin 4} {x : Nat} (hd : Dc (M_c μ) pc (.aload_n i) 1 npc) (hl : L[i.1]? = some (.ref x)) (k : V E μ K npc L (.ref x :: st) h c) : V E μ K pc L (st) h c := by
  obtain ⟨hdg, rfl⟩ := hd
  intro g p e s m args below meth cd H locs ls hF hW hL
  exact lv_aload_n hF.1 hF.2.1 hdg rfl (hL.2.2 i.1 _ hl rfl) (k g p e s m args below meth cd H locs ls hF hW hL)
theorem V_lload {i : Nat} {x : Int64} (hd : Dc (M_c μ) pc (.lload i) 2 npc) (hl : L[i]? = some (.long x)) (k : V E μ K npc L (.long x :: st) h c) : V E μ K pc L (st) h c := by
  obtain ⟨hdg, rfl⟩ := hd
  intro g p e s m args below meth cd H locs ls hF hW hL
  exact lv_lload hF.1 hF.2.1 hdg (hL.2.2 i _ hl rfl) (k g p e s m args below meth cd H locs ls hF hW hL)
theorem V_lload_n {i : Fin 4} {x : Int64} (hd : Dc (M_c μ) pc (.lload_n i) 1 npc) (hl : L[i.1]? = some (.long x)) (k : V E μ K npc L (.long x :: st) h c) : V E μ K pc L (st) h c := by
  obtain ⟨hdg, rfl⟩ := hd
  intro g p e s m args below meth cd H locs ls hF hW hL
  exact lv_lload_n hF.1 hF.2.1 hdg rfl (hL.2.2 i.1 _ hl rfl) (k g p e s m args below meth cd H locs ls hF hW hL)
theorem V_aloadS_n {i : Fin 4} {j : UInt32} (hd : Dc (M_c μ) pc (.aload_n i) 1 npc) (hj : aSp j) (hl : L[i.1]? = some (.float j)) (k : V E μ K npc L (.float j :: st) h c) : V E μ K pc L st h c := by
  obtain ⟨hdg, rfl⟩ := hd
  intro g p e s m args below meth cd H locs ls hF hW hL
  obtain ⟨b, hb⟩ := aSp_ref (F_X hF) hj
  have h1 := hL.2.2 i.1 _ hl rfl
  rw [show cv g (.float j) = .ref b from hb] at h1
  refine lv_aload_n hF.1 hF.2.1 hdg rfl h1 ?_
  have h2 := k g p e s m args below meth cd H locs ls hF hW hL
  rw [List.map_cons, show cv g (.float j) = .ref b from hb] at h2
  exact h2
theorem V_istore {i : Nat} {x : Int32} (hd : Dc (M_c μ) pc (.istore i) 2 npc) (hn : i < M_L μ) (k : V E μ K npc (aset1 L i (.int x)) st h c) : V E μ K pc L (.int x :: st) h c := by
  obtain ⟨hdg, rfl⟩ := hd
  intro g p e s m args below meth cd H locs ls hF hW hL
  exact lv_istore hF.1 hF.2.1 hdg (aL_has hL) hn rfl (fun ls' hl' => k g p e s m args below meth cd H locs ls' hF hW (aL_set1 (aX_cat (F_X hF)) hl'))
theorem V_istore_n {i : Fin 4} {x : Int32} (hd : Dc (M_c μ) pc (.istore_n i) 1 npc) (hn : i.1 < M_L μ) (k : V E μ K npc (aset1 L i.1 (.int x)) st h c) : V E μ K pc L (.int x :: st) h c := by
  obtain ⟨hdg, rfl⟩ := hd
  intro g p e s m args below meth cd H locs ls hF hW hL
  exact lv_istore_n hF.1 hF.2.1 hdg rfl (aL_has hL) hn rfl (fun ls' hl' => k g p e s m args below meth cd H locs ls' hF hW (aL_set1 (aX_cat (F_X hF)) hl'))
theorem V_astore {i : Nat} {x : Nat} (hd : Dc (M_c μ) pc (.astore i) 2 npc) (hn : i < M_L μ) (k : V E μ K npc (aset1 L i (.ref x)) st h c) : V E μ K pc L (.ref x :: st) h c := by
  obtain ⟨hdg, rfl⟩ := hd
  intro g p e s m args below meth cd H locs ls hF hW hL
  exact lv_astore hF.1 hF.2.1 hdg (aL_has hL) hn rfl (fun ls' hl' => k g p e s m args below meth cd H locs ls' hF hW (aL_set1 (aX_cat (F_X hF)) hl'))
theorem V_astore_n {i : Fin 4} {x : Nat} (hd : Dc (M_c μ) pc (.astore_n i) 1 npc) (hn : i.1 < M_L μ) (k : V E μ K npc (aset1 L i.1 (.ref x)) st h c) : V E μ K pc L (.ref x :: st) h c := by
  obtain ⟨hdg, rfl⟩ := hd
  intro g p e s m args below meth cd H locs ls hF hW hL
  exact lv_astore_n hF.1 hF.2.1 hdg rfl (aL_has hL) hn rfl (fun ls' hl' => k g p e s m args below meth cd H locs ls' hF hW (aL_set1 (aX_cat (F_X hF)) hl'))
theorem V_lstore {i : Nat} {x : Int64} (hd : Dc (M_c μ) pc (.lstore i) 2 npc) (hn : i + 1 < M_L μ) (k : V E μ K npc (aset2 L i (.long x)) st h c) : V E μ K pc L (.long x :: st) h c := by
  obtain ⟨hdg, rfl⟩ := hd
  intro g p e s m args below meth cd H locs ls hF hW hL
  exact lv_lstore hF.1 hF.2.1 hdg (aL_has hL) hn rfl (fun ls' hl' => k g p e s m args below meth cd H locs ls' hF hW (aL_set2 (aX_cat (F_X hF)) hl'))
theorem V_lstore_n {i : Fin 4} {x : Int64} (hd : Dc (M_c μ) pc (.lstore_n i) 1 npc) (hn : i.1 + 1 < M_L μ) (k : V E μ K npc (aset2 L i.1 (.long x)) st h c) : V E μ K pc L (.long x :: st) h c := by
  obtain ⟨hdg, rfl⟩ := hd
  intro g p e s m args below meth cd H locs ls hF hW hL
  exact lv_lstore_n hF.1 hF.2.1 hdg rfl (aL_has hL) hn rfl (fun ls' hl' => k g p e s m args below meth cd H locs ls' hF hW (aL_set2 (aX_cat (F_X hF)) hl'))
theorem V_iinc {i : Nat} {z : Int} {x v : Int32} (hd : Dc (M_c μ) pc (.iinc i z) 3 npc) (hn : i < M_L μ) (hl : L[i]? = some (.int x)) (hv : x + Int32.ofInt z = v) (k : V E μ K npc (aset1 L i (.int v)) st h c) : V E μ K pc L st h c := by
  obtain ⟨hdg, rfl⟩ := hd
  intro g p e s m args below meth cd H locs ls hF hW hL
  obtain ⟨q, hq⟩ := aL_idx (g := g) hl rfl
  exact lv_iinc (k := q) hF.1 hF.2.1 hdg (aL_has hL) hq hv hn rfl (fun ls' hl' => k g p e s m args below meth cd H locs ls' hF hW (aL_set1 (aX_cat (F_X hF)) hl'))
theorem V_iconst {z : Int} {v : Int32} (hd : Dc (M_c μ) pc (.iconst z) 1 npc) (hv : Int32.ofInt z = v) (k : V E μ K npc L (.int v :: st) h c) : V E μ K pc L (st) h c := by
  obtain ⟨hdg, rfl⟩ := hd
  intro g p e s m args below meth cd H locs ls hF hW hL
  exact lv_iconst hF.1 hF.2.1 hdg hv (k g p e s m args below meth cd H locs ls hF hW hL)
theorem V_lconst {z : Fin 2} {v : Int64} (hd : Dc (M_c μ) pc (.lconst z) 1 npc) (hv : Int64.ofNat (z : Nat) = v) (k : V E μ K npc L (.long v :: st) h c) : V E μ K pc L (st) h c := by
  obtain ⟨hdg, rfl⟩ := hd
  intro g p e s m args below meth cd H locs ls hF hW hL
  exact lv_lconst hF.1 hF.2.1 hdg hv (k g p e s m args below meth cd H locs ls hF hW hL)
theorem V_bipush {z : Int} {v : Int32} (hd : Dc (M_c μ) pc (.bipush z) 2 npc) (hv : (Int8.ofInt z).toInt32 = v) (k : V E μ K npc L (.int v :: st) h c) : V E μ K pc L (st) h c := by
  obtain ⟨hdg, rfl⟩ := hd
  intro g p e s m args below meth cd H locs ls hF hW hL
  exact lv_bipush hF.1 hF.2.1 hdg hv (k g p e s m args below meth cd H locs ls hF hW hL)
theorem V_sipush {z : Int} {v : Int32} (hd : Dc (M_c μ) pc (.sipush z) 3 npc) (hv : (Int16.ofInt z).toInt32 = v) (k : V E μ K npc L (.int v :: st) h c) : V E μ K pc L (st) h c := by
  obtain ⟨hdg, rfl⟩ := hd
  intro g p e s m args below meth cd H locs ls hF hW hL
  exact lv_sipush hF.1 hF.2.1 hdg hv (k g p e s m args below meth cd H locs ls hF hW hL)
theorem V_ldc {i : Nat} {v : Int32} (hd : Dc (M_c μ) pc (.ldc i) 2 npc) (hw : Cond.constant (M_y μ).cls i v ∈ gtb) (k : V E μ K npc L (.int v :: st) h c) : V E μ K pc L (st) h c := by
  obtain ⟨hdg, rfl⟩ := hd
  intro g p e s m args below meth cd H locs ls hF hW hL
  exact lv_ldc hF.1 hF.2.1 (F_o hF) (F_w hF _ hw) hdg (k g p e s m args below meth cd H locs ls hF hW hL)
theorem V_ldc_w {i : Nat} {v : Int32} (hd : Dc (M_c μ) pc (.ldc_w i) 3 npc) (hw : Cond.constant (M_y μ).cls i v ∈ gtb) (k : V E μ K npc L (.int v :: st) h c) : V E μ K pc L (st) h c := by
  obtain ⟨hdg, rfl⟩ := hd
  intro g p e s m args below meth cd H locs ls hF hW hL
  exact lv_ldcw hF.1 hF.2.1 (F_o hF) (F_w hF _ hw) hdg (k g p e s m args below meth cd H locs ls hF hW hL)
theorem V_ldc2_w {i : Nat} {v : Int64} (hd : Dc (M_c μ) pc (.ldc2_w i) 3 npc) (hw : Cond.constantLong (M_y μ).cls i v ∈ gtb) (k : V E μ K npc L (.long v :: st) h c) : V E μ K pc L (st) h c := by
  obtain ⟨hdg, rfl⟩ := hd
  intro g p e s m args below meth cd H locs ls hF hW hL
  exact lv_ldc2 hF.1 hF.2.1 (F_o hF) (F_w hF _ hw) hdg (k g p e s m args below meth cd H locs ls hF hW hL)
theorem V_dupI {x : Int32} (hd : Dc (M_c μ) pc (.dup) 1 npc) (k : V E μ K npc L (.int x :: .int x :: st) h c) : V E μ K pc L (.int x :: st) h c := by
  obtain ⟨hdg, rfl⟩ := hd
  intro g p e s m args below meth cd H locs ls hF hW hL
  exact lv_dup hF.1 hF.2.1 hdg rfl (k g p e s m args below meth cd H locs ls hF hW hL)
theorem V_dupR {x : Nat} (hd : Dc (M_c μ) pc (.dup) 1 npc) (k : V E μ K npc L (.ref x :: .ref x :: st) h c) : V E μ K pc L (.ref x :: st) h c := by
  obtain ⟨hdg, rfl⟩ := hd
  intro g p e s m args below meth cd H locs ls hF hW hL
  exact lv_dup hF.1 hF.2.1 hdg rfl (k g p e s m args below meth cd H locs ls hF hW hL)
theorem V_dup2 {x : Int32} {y : Nat} (hd : Dc (M_c μ) pc (.dup2) 1 npc) (k : V E μ K npc L (.int x :: .ref y :: .int x :: .ref y :: st) h c) : V E μ K pc L (.int x :: .ref y :: st) h c := by
  obtain ⟨hdg, rfl⟩ := hd
  intro g p e s m args below meth cd H locs ls hF hW hL
  exact lv_dup2_11 hF.1 hF.2.1 hdg rfl rfl (k g p e s m args below meth cd H locs ls hF hW hL)
theorem V_popI {x : Int32} (hd : Dc (M_c μ) pc (.pop) 1 npc) (k : V E μ K npc L (st) h c) : V E μ K pc L (.int x :: st) h c := by
  obtain ⟨hdg, rfl⟩ := hd
  intro g p e s m args below meth cd H locs ls hF hW hL
  exact lv_pop hF.1 hF.2.1 hdg rfl (k g p e s m args below meth cd H locs ls hF hW hL)
theorem V_iadd {x y : Int32} (hd : Dc (M_c μ) pc (.iadd) 1 npc) (k : V E μ K npc L (.int (x + y) :: st) h c) : V E μ K pc L (.int y :: .int x :: st) h c := by
  obtain ⟨hdg, rfl⟩ := hd
  intro g p e s m args below meth cd H locs ls hF hW hL
  exact lv_iadd hF.1 hF.2.1 hdg (k g p e s m args below meth cd H locs ls hF hW hL)
theorem V_isub {x y : Int32} (hd : Dc (M_c μ) pc (.isub) 1 npc) (k : V E μ K npc L (.int (x - y) :: st) h c) : V E μ K pc L (.int y :: .int x :: st) h c := by
  obtain ⟨hdg, rfl⟩ := hd
  intro g p e s m args below meth cd H locs ls hF hW hL
  exact lv_isub hF.1 hF.2.1 hdg (k g p e s m args below meth cd H locs ls hF hW hL)
theorem V_imul {x y : Int32} (hd : Dc (M_c μ) pc (.imul) 1 npc) (k : V E μ K npc L (.int (x * y) :: st) h c) : V E μ K pc L (.int y :: .int x :: st) h c := by
  obtain ⟨hdg, rfl⟩ := hd
  intro g p e s m args below meth cd H locs ls hF hW hL
  exact lv_imul hF.1 hF.2.1 hdg (k g p e s m args below meth cd H locs ls hF hW hL)
theorem V_iand {x y : Int32} (hd : Dc (M_c μ) pc (.iand) 1 npc) (k : V E μ K npc L (.int (x &&& y) :: st) h c) : V E μ K pc L (.int y :: .int x :: st) h c := by
  obtain ⟨hdg, rfl⟩ := hd
  intro g p e s m args below meth cd H locs ls hF hW hL
  exact lv_iand hF.1 hF.2.1 hdg (k g p e s m args below meth cd H locs ls hF hW hL)
theorem V_ior {x y : Int32} (hd : Dc (M_c μ) pc (.ior) 1 npc) (k : V E μ K npc L (.int (x ||| y) :: st) h c) : V E μ K pc L (.int y :: .int x :: st) h c := by
  obtain ⟨hdg, rfl⟩ := hd
  intro g p e s m args below meth cd H locs ls hF hW hL
  exact lv_ior hF.1 hF.2.1 hdg (k g p e s m args below meth cd H locs ls hF hW hL)
theorem V_ishl {x y : Int32} (hd : Dc (M_c μ) pc (.ishl) 1 npc) (k : V E μ K npc L (.int (x <<< (y &&& 31)) :: st) h c) : V E μ K pc L (.int y :: .int x :: st) h c := by
  obtain ⟨hdg, rfl⟩ := hd
  intro g p e s m args below meth cd H locs ls hF hW hL
  exact lv_ishl hF.1 hF.2.1 hdg (k g p e s m args below meth cd H locs ls hF hW hL)
theorem V_ishr {x y : Int32} (hd : Dc (M_c μ) pc (.ishr) 1 npc) (k : V E μ K npc L (.int (x >>> (y &&& 31)) :: st) h c) : V E μ K pc L (.int y :: .int x :: st) h c := by
  obtain ⟨hdg, rfl⟩ := hd
  intro g p e s m args below meth cd H locs ls hF hW hL
  exact lv_ishr hF.1 hF.2.1 hdg (k g p e s m args below meth cd H locs ls hF hW hL)
theorem V_idiv {x y : Int32} (hd : Dc (M_c μ) pc (.idiv) 1 npc) (hne : ¬ y = 0) (k : V E μ K npc L (.int (x / y) :: st) h c) : V E μ K pc L (.int y :: .int x :: st) h c := by
  obtain ⟨hdg, rfl⟩ := hd
  intro g p e s m args below meth cd H locs ls hF hW hL
  exact lv_idiv hF.1 hF.2.1 hdg hne (k g p e s m args below meth cd H locs ls hF hW hL)
theorem V_irem {x y : Int32} (hd : Dc (M_c μ) pc (.irem) 1 npc) (hne : ¬ y = 0) (k : V E μ K npc L (.int (x - x / y * y) :: st) h c) : V E μ K pc L (.int y :: .int x :: st) h c := by
  obtain ⟨hdg, rfl⟩ := hd
  intro g p e s m args below meth cd H locs ls hF hW hL
  exact lv_irem hF.1 hF.2.1 hdg hne (k g p e s m args below meth cd H locs ls hF hW hL)
theorem V_ladd {x y : Int64} (hd : Dc (M_c μ) pc (.ladd) 1 npc) (k : V E μ K npc L (.long (x + y) :: st) h c) : V E μ K pc L (.long y :: .long x :: st) h c := by
  obtain ⟨hdg, rfl⟩ := hd
  intro g p e s m args below meth cd H locs ls hF hW hL
  exact lv_ladd hF.1 hF.2.1 hdg (k g p e s m args below meth cd H locs ls hF hW hL)
theorem V_lsub {x y : Int64} (hd : Dc (M_c μ) pc (.lsub) 1 npc) (k : V E μ K npc L (.long (x - y) :: st) h c) : V E μ K pc L (.long y :: .long x :: st) h c := by
  obtain ⟨hdg, rfl⟩ := hd
  intro g p e s m args below meth cd H locs ls hF hW hL
  exact lv_lsub hF.1 hF.2.1 hdg (k g p e s m args below meth cd H locs ls hF hW hL)
theorem V_lmul {x y : Int64} (hd : Dc (M_c μ) pc (.lmul) 1 npc) (k : V E μ K npc L (.long (x * y) :: st) h c) : V E μ K pc L (.long y :: .long x :: st) h c := by
  obtain ⟨hdg, rfl⟩ := hd
  intro g p e s m args below meth cd H locs ls hF hW hL
  exact lv_lmul hF.1 hF.2.1 hdg (k g p e s m args below meth cd H locs ls hF hW hL)
theorem V_land {x y : Int64} (hd : Dc (M_c μ) pc (.land) 1 npc) (k : V E μ K npc L (.long (x &&& y) :: st) h c) : V E μ K pc L (.long y :: .long x :: st) h c := by
  obtain ⟨hdg, rfl⟩ := hd
  intro g p e s m args below meth cd H locs ls hF hW hL
  exact lv_land hF.1 hF.2.1 hdg (k g p e s m args below meth cd H locs ls hF hW hL)
theorem V_lor {x y : Int64} (hd : Dc (M_c μ) pc (.lor) 1 npc) (k : V E μ K npc L (.long (x ||| y) :: st) h c) : V E μ K pc L (.long y :: .long x :: st) h c := by
  obtain ⟨hdg, rfl⟩ := hd
  intro g p e s m args below meth cd H locs ls hF hW hL
  exact lv_lor hF.1 hF.2.1 hdg (k g p e s m args below meth cd H locs ls hF hW hL)
theorem V_ldiv {x y : Int64} (hd : Dc (M_c μ) pc (.ldiv) 1 npc) (hne : ¬ y = 0) (k : V E μ K npc L (.long (x / y) :: st) h c) : V E μ K pc L (.long y :: .long x :: st) h c := by
  obtain ⟨hdg, rfl⟩ := hd
  intro g p e s m args below meth cd H locs ls hF hW hL
  exact lv_ldiv hF.1 hF.2.1 hdg hne (k g p e s m args below meth cd H locs ls hF hW hL)
theorem V_lrem {x y : Int64} (hd : Dc (M_c μ) pc (.lrem) 1 npc) (hne : ¬ y = 0) (k : V E μ K npc L (.long (x - x / y * y) :: st) h c) : V E μ K pc L (.long y :: .long x :: st) h c := by
  obtain ⟨hdg, rfl⟩ := hd
  intro g p e s m args below meth cd H locs ls hF hW hL
  exact lv_lrem hF.1 hF.2.1 hdg hne (k g p e s m args below meth cd H locs ls hF hW hL)
theorem V_ineg {x : Int32} (hd : Dc (M_c μ) pc (.ineg) 1 npc) (k : V E μ K npc L (.int (-x) :: st) h c) : V E μ K pc L (.int x :: st) h c := by
  obtain ⟨hdg, rfl⟩ := hd
  intro g p e s m args below meth cd H locs ls hF hW hL
  exact lv_ineg hF.1 hF.2.1 hdg (k g p e s m args below meth cd H locs ls hF hW hL)
theorem V_lneg {x : Int64} (hd : Dc (M_c μ) pc (.lneg) 1 npc) (k : V E μ K npc L (.long (-x) :: st) h c) : V E μ K pc L (.long x :: st) h c := by
  obtain ⟨hdg, rfl⟩ := hd
  intro g p e s m args below meth cd H locs ls hF hW hL
  exact lv_lneg hF.1 hF.2.1 hdg (k g p e s m args below meth cd H locs ls hF hW hL)
theorem V_lshl {x : Int64} {y : Int32} (hd : Dc (M_c μ) pc (.lshl) 1 npc) (k : V E μ K npc L (.long (x <<< (y.toInt64 &&& 63)) :: st) h c) : V E μ K pc L (.int y :: .long x :: st) h c := by
  obtain ⟨hdg, rfl⟩ := hd
  intro g p e s m args below meth cd H locs ls hF hW hL
  exact lv_lshl hF.1 hF.2.1 hdg rfl (k g p e s m args below meth cd H locs ls hF hW hL)
theorem V_lshr {x : Int64} {y : Int32} (hd : Dc (M_c μ) pc (.lshr) 1 npc) (k : V E μ K npc L (.long (x >>> (y.toInt64 &&& 63)) :: st) h c) : V E μ K pc L (.int y :: .long x :: st) h c := by
  obtain ⟨hdg, rfl⟩ := hd
  intro g p e s m args below meth cd H locs ls hF hW hL
  exact lv_lshr hF.1 hF.2.1 hdg rfl (k g p e s m args below meth cd H locs ls hF hW hL)
theorem V_lushr {x : Int64} {y : Int32} (hd : Dc (M_c μ) pc (.lushr) 1 npc) (k : V E μ K npc L (.long ((x.toUInt64 >>> (y.toInt64.toUInt64 &&& Int64.toUInt64 63)).toInt64) :: st) h c) : V E μ K pc L (.int y :: .long x :: st) h c := by
  obtain ⟨hdg, rfl⟩ := hd
  intro g p e s m args below meth cd H locs ls hF hW hL
  exact lv_lushr hF.1 hF.2.1 hdg rfl (k g p e s m args below meth cd H locs ls hF hW hL)
theorem V_i2l {x : Int32} (hd : Dc (M_c μ) pc (.i2l) 1 npc) (k : V E μ K npc L (.long x.toInt64 :: st) h c) : V E μ K pc L (.int x :: st) h c := by
  obtain ⟨hdg, rfl⟩ := hd
  intro g p e s m args below meth cd H locs ls hF hW hL
  exact lv_i2l hF.1 hF.2.1 hdg rfl (k g p e s m args below meth cd H locs ls hF hW hL)
theorem V_l2i {x : Int64} (hd : Dc (M_c μ) pc (.l2i) 1 npc) (k : V E μ K npc L (.int x.toInt32 :: st) h c) : V E μ K pc L (.long x :: st) h c := by
  obtain ⟨hdg, rfl⟩ := hd
  intro g p e s m args below meth cd H locs ls hF hW hL
  exact lv_l2i hF.1 hF.2.1 hdg rfl (k g p e s m args below meth cd H locs ls hF hW hL)
theorem V_i2b {x : Int32} (hd : Dc (M_c μ) pc (.i2b) 1 npc) (k : V E μ K npc L (.int x.toInt8.toInt32 :: st) h c) : V E μ K pc L (.int x :: st) h c := by
  obtain ⟨hdg, rfl⟩ := hd
  intro g p e s m args below meth cd H locs ls hF hW hL
  exact lv_i2b hF.1 hF.2.1 hdg rfl (k g p e s m args below meth cd H locs ls hF hW hL)
theorem V_i2s {x : Int32} (hd : Dc (M_c μ) pc (.i2s) 1 npc) (k : V E μ K npc L (.int x.toInt16.toInt32 :: st) h c) : V E μ K pc L (.int x :: st) h c := by
  obtain ⟨hdg, rfl⟩ := hd
  intro g p e s m args below meth cd H locs ls hF hW hL
  exact lv_i2s hF.1 hF.2.1 hdg rfl (k g p e s m args below meth cd H locs ls hF hW hL)
theorem V_i2c {x : Int32} (hd : Dc (M_c μ) pc (.i2c) 1 npc) (k : V E μ K npc L (.int (x.toUInt32 % 65536).toInt32 :: st) h c) : V E μ K pc L (.int x :: st) h c := by
  obtain ⟨hdg, rfl⟩ := hd
  intro g p e s m args below meth cd H locs ls hF hW hL
  exact lv_i2c hF.1 hF.2.1 hdg rfl (k g p e s m args below meth cd H locs ls hF hW hL)
theorem V_lcmp {x y : Int64} (hd : Dc (M_c μ) pc (.lcmp) 1 npc) (k : V E μ K npc L (.int (lg_cmp x y) :: st) h c) : V E μ K pc L (.long y :: .long x :: st) h c := by
  obtain ⟨hdg, rfl⟩ := hd
  intro g p e s m args below meth cd H locs ls hF hW hL
  exact W.lcmp hF.1 hF.2.1 hdg (k g p e s m args below meth cd H locs ls hF hW hL)
theorem V_goto {off : Int} (hd : Dj (M_c μ) pc (.goto off) 3 npc off tgt) (k : V E μ K tgt L st h c) : V E μ K pc L st h c := by
  obtain ⟨hdg, rfl, ht⟩ := hd
  intro g p e s m args below meth cd H locs ls hF hW hL
  exact lv_goto hF.1 hF.2.1 hdg ht (k g p e s m args below meth cd H locs ls hF hW hL)
theorem V_if_eq {off : Int} {x : Int32} (hd : Dj (M_c μ) pc (.ifCond .eq off) 3 npc off tgt) (kt : x = 0 → V E μ K tgt L st h c) (kf : ¬ x = 0 → V E μ K npc L st h c) : V E μ K pc L (.int x :: st) h c := by
  obtain ⟨hdg, rfl, ht⟩ := hd
  intro g p e s m args below meth cd H locs ls hF hW hL
  exact lv_if_eq hF.1 hF.2.1 hdg ht (fun q => kt q g p e s m args below meth cd H locs ls hF hW hL) (fun q => kf q g p e s m args below meth cd H locs ls hF hW hL)
theorem V_if_ne {off : Int} {x : Int32} (hd : Dj (M_c μ) pc (.ifCond .ne off) 3 npc off tgt) (kt : ¬ x = 0 → V E μ K tgt L st h c) (kf : x = 0 → V E μ K npc L st h c) : V E μ K pc L (.int x :: st) h c := by
  obtain ⟨hdg, rfl, ht⟩ := hd
  intro g p e s m args below meth cd H locs ls hF hW hL
  exact lv_if_ne hF.1 hF.2.1 hdg ht (fun q => kt q g p e s m args below meth cd H locs ls hF hW hL) (fun q => kf q g p e s m args below meth cd H locs ls hF hW hL)
theorem V_if_lt {off : Int} {x : Int32} (hd : Dj (M_c μ) pc (.ifCond .lt off) 3 npc off tgt) (kt : x < 0 → V E μ K tgt L st h c) (kf : ¬ x < 0 → V E μ K npc L st h c) : V E μ K pc L (.int x :: st) h c := by
  obtain ⟨hdg, rfl, ht⟩ := hd
  intro g p e s m args below meth cd H locs ls hF hW hL
  exact lv_if_lt hF.1 hF.2.1 hdg ht (fun q => kt q g p e s m args below meth cd H locs ls hF hW hL) (fun q => kf q g p e s m args below meth cd H locs ls hF hW hL)
theorem V_if_ge {off : Int} {x : Int32} (hd : Dj (M_c μ) pc (.ifCond .ge off) 3 npc off tgt) (kt : 0 ≤ x → V E μ K tgt L st h c) (kf : ¬ 0 ≤ x → V E μ K npc L st h c) : V E μ K pc L (.int x :: st) h c := by
  obtain ⟨hdg, rfl, ht⟩ := hd
  intro g p e s m args below meth cd H locs ls hF hW hL
  exact lv_if_ge hF.1 hF.2.1 hdg ht (fun q => kt q g p e s m args below meth cd H locs ls hF hW hL) (fun q => kf q g p e s m args below meth cd H locs ls hF hW hL)
theorem V_if_gt {off : Int} {x : Int32} (hd : Dj (M_c μ) pc (.ifCond .gt off) 3 npc off tgt) (kt : 0 < x → V E μ K tgt L st h c) (kf : ¬ 0 < x → V E μ K npc L st h c) : V E μ K pc L (.int x :: st) h c := by
  obtain ⟨hdg, rfl, ht⟩ := hd
  intro g p e s m args below meth cd H locs ls hF hW hL
  exact lv_if_gt hF.1 hF.2.1 hdg ht (fun q => kt q g p e s m args below meth cd H locs ls hF hW hL) (fun q => kf q g p e s m args below meth cd H locs ls hF hW hL)
theorem V_if_le {off : Int} {x : Int32} (hd : Dj (M_c μ) pc (.ifCond .le off) 3 npc off tgt) (kt : x ≤ 0 → V E μ K tgt L st h c) (kf : ¬ x ≤ 0 → V E μ K npc L st h c) : V E μ K pc L (.int x :: st) h c := by
  obtain ⟨hdg, rfl, ht⟩ := hd
  intro g p e s m args below meth cd H locs ls hF hW hL
  exact lv_if_le hF.1 hF.2.1 hdg ht (fun q => kt q g p e s m args below meth cd H locs ls hF hW hL) (fun q => kf q g p e s m args below meth cd H locs ls hF hW hL)
theorem V_icmp_eq {off : Int} {x y : Int32} (hd : Dj (M_c μ) pc (.if_icmp .eq off) 3 npc off tgt) (kt : x = y → V E μ K tgt L st h c) (kf : ¬ x = y → V E μ K npc L st h c) : V E μ K pc L (.int y :: .int x :: st) h c := by
  obtain ⟨hdg, rfl, ht⟩ := hd
  intro g p e s m args below meth cd H locs ls hF hW hL
  exact lv_icmp_eq hF.1 hF.2.1 hdg ht (fun q => kt q g p e s m args below meth cd H locs ls hF hW hL) (fun q => kf q g p e s m args below meth cd H locs ls hF hW hL)
theorem V_icmp_ne {off : Int} {x y : Int32} (hd : Dj (M_c μ) pc (.if_icmp .ne off) 3 npc off tgt) (kt : ¬ x = y → V E μ K tgt L st h c) (kf : x = y → V E μ K npc L st h c) : V E μ K pc L (.int y :: .int x :: st) h c := by
  obtain ⟨hdg, rfl, ht⟩ := hd
  intro g p e s m args below meth cd H locs ls hF hW hL
  exact lv_icmp_ne hF.1 hF.2.1 hdg ht (fun q => kt q g p e s m args below meth cd H locs ls hF hW hL) (fun q => kf q g p e s m args below meth cd H locs ls hF hW hL)
theorem V_icmp_lt {off : Int} {x y : Int32} (hd : Dj (M_c μ) pc (.if_icmp .lt off) 3 npc off tgt) (kt : x < y → V E μ K tgt L st h c) (kf : ¬ x < y → V E μ K npc L st h c) : V E μ K pc L (.int y :: .int x :: st) h c := by
  obtain ⟨hdg, rfl, ht⟩ := hd
  intro g p e s m args below meth cd H locs ls hF hW hL
  exact lv_icmp_lt hF.1 hF.2.1 hdg ht (fun q => kt q g p e s m args below meth cd H locs ls hF hW hL) (fun q => kf q g p e s m args below meth cd H locs ls hF hW hL)
theorem V_icmp_ge {off : Int} {x y : Int32} (hd : Dj (M_c μ) pc (.if_icmp .ge off) 3 npc off tgt) (kt : y ≤ x → V E μ K tgt L st h c) (kf : ¬ y ≤ x → V E μ K npc L st h c) : V E μ K pc L (.int y :: .int x :: st) h c := by
  obtain ⟨hdg, rfl, ht⟩ := hd
  intro g p e s m args below meth cd H locs ls hF hW hL
  exact lv_icmp_ge hF.1 hF.2.1 hdg ht (fun q => kt q g p e s m args below meth cd H locs ls hF hW hL) (fun q => kf q g p e s m args below meth cd H locs ls hF hW hL)
theorem V_icmp_gt {off : Int} {x y : Int32} (hd : Dj (M_c μ) pc (.if_icmp .gt off) 3 npc off tgt) (kt : y < x → V E μ K tgt L st h c) (kf : ¬ y < x → V E μ K npc L st h c) : V E μ K pc L (.int y :: .int x :: st) h c := by
  obtain ⟨hdg, rfl, ht⟩ := hd
  intro g p e s m args below meth cd H locs ls hF hW hL
  exact lv_icmp_gt hF.1 hF.2.1 hdg ht (fun q => kt q g p e s m args below meth cd H locs ls hF hW hL) (fun q => kf q g p e s m args below meth cd H locs ls hF hW hL)
theorem V_icmp_le {off : Int} {x y : Int32} (hd : Dj (M_c μ) pc (.if_icmp .le off) 3 npc off tgt) (kt : x ≤ y → V E μ K tgt L st h c) (kf : ¬ x ≤ y → V E μ K npc L st h c) : V E μ K pc L (.int y :: .int x :: st) h c := by
  obtain ⟨hdg, rfl, ht⟩ := hd
  intro g p e s m args below meth cd H locs ls hF hW hL
  exact lv_icmp_le hF.1 hF.2.1 hdg ht (fun q => kt q g p e s m args below meth cd H locs ls hF hW hL) (fun q => kf q g p e s m args below meth cd H locs ls hF hW hL)

end VR
end
section
theorem u_good {C : String} {T : u_T} {N : Nat} : ∀ w ∈ u_ws C T N, goodWord w = true := by
  intro w hw
  obtain ⟨k, -, rfl⟩ := List.mem_map.mp hw
  unfold u_lay
  split <;> rfl
theorem u_inG {ci : Nat} {q : vw_C} (h : CLS[ci]? = some q) : ∀ w ∈ u_ws q.1 q.2.1 q.2.2, w ∈ gtb := fun w hw => List.mem_filter.mpr ⟨u_in h w hw, u_good w hw⟩
theorem g_mem {w : Cond} (i : Nat) (h : lw_tbl[i]? = some w) (hg : goodWord w = true) : w ∈ gtb := List.mem_filter.mpr ⟨List.mem_of_getElem? h, hg⟩
theorem g_goodIn {w : Cond} (hw : w ∈ gtb) : GoodIn gtb (w :: gtb) := by
  intro x hx
  have h1 : x ∈ gtb := by
    rcases List.mem_cons.mp hx with e | e
    · rw [e]; exact hw
    · exact e
  exact ⟨h1, good_of_word (List.mem_filter.mp h1).2⟩
/-- a field of a class, as a class file's entry names it -/
def FL (own : String) (idx ci j : Nat) : Prop := ∃ q : vw_C, CLS[ci]? = some q ∧ j < q.2.2 ∧ Cond.fieldLink own idx (q.2.1 j).1 (q.2.1 j).2.1 (q.2.1 j).2.2.1 ∈ gtb
def FP (own : String) (idx ci j : Nat) (ty : FieldType) : Prop := ∃ q : vw_C, CLS[ci]? = some q ∧ j < q.2.2 ∧ Cond.fieldLink own idx (q.2.1 j).1 (q.2.1 j).2.1 (q.2.1 j).2.2.1 ∈ gtb ∧ (q.2.1 j).2.2.2 = false ∧ parseFieldDescriptor (q.2.1 j).2.2.1 = some ty ∧ True
def FF (own : String) (idx ci j : Nat) (ty : FieldType) : Prop := ∃ q : vw_C, CLS[ci]? = some q ∧ j < q.2.2 ∧ Cond.fieldLink own idx (q.2.1 j).1 (q.2.1 j).2.1 (q.2.1 j).2.2.1 ∈ gtb ∧ (q.2.1 j).2.2.2 = true ∧ parseFieldDescriptor (q.2.1 j).2.2.1 = some ty ∧ (q.2.1 j).1 = own
/-- a type of references -/
def aRf (ty : FieldType) : Bool := match ty with
  | .object _ => true
  | .array _ => true
  | _ => false
theorem aRf_n {ty : FieldType} {a : Nat} (h : aRf ty = true) : narrow ty (.ref a) = .ref a := by
  cases ty <;> first | rfl | cases h
theorem aRf_f {ty : FieldType} {a : Nat} (h : aRf ty = true) : fits ty (.ref a) = true := by
  cases ty <;> first | rfl | cases h
/-- a method that the tables have -/
def okM (μ : aM) : Prop := plainName (M_y μ).cls = true ∧ Cond.code (M_y μ) (M_c μ) (M_L μ) (M_r μ) ∈ gtb ∧ Cond.initialized (M_y μ).cls ∈ gtb ∧ ((M_y μ).cls ≠ "java/lang/invoke/MethodHandle" ∧ (M_y μ).cls ≠ "java/lang/invoke/VarHandle" ∧ (parseMethodDescriptor (M_y μ).desc).map (fun d => d.parameters.length) = some (M_n μ))
def okV (own : String) (idx : Nat) (μ : aM) : Prop := okM μ ∧ Cond.methodLink own idx (M_y μ) ∈ gtb ∧ Cond.instanceMethod (M_y μ) ∈ gtb ∧ Cond.selects (M_y μ).cls (M_y μ) (M_y μ) ∈ gtb
def okS (own : String) (idx : Nat) (μ : aM) : Prop := okM μ ∧ Cond.methodLink own idx (M_y μ) ∈ gtb ∧ Cond.static (M_y μ) ∈ gtb
def okI (own : String) (idx : Nat) (μ : aM) : Prop := okM μ ∧ Cond.methodLink own idx (M_y μ) ∈ gtb ∧ Cond.instanceMethod (M_y μ) ∈ gtb ∧ (M_y μ).name = "<init>"
/-- the callee's room fits -/
def rmok (R : Room) (μ : aM) (c : Nat × Nat) : Bool := Nat.ble ((M_R μ).frames + 1) R.frames && (Nat.ble (8 + (M_L μ + 11) + (M_R μ).locals) R.locals && (Nat.ble (c.1 + (M_R μ).cells) R.cells && Nat.ble (c.2 + (M_R μ).slots) R.slots))
theorem rmok_spec {R : Room} {μ : aM} {c : Nat × Nat} (h : rmok R μ c = true) : ((M_R μ).frames + 1 ≤ R.frames ∧ 8 + (M_L μ + 11) + (M_R μ).locals ≤ R.locals) ∧ (c.1 + (M_R μ).cells ≤ R.cells ∧ c.2 + (M_R μ).slots ≤ R.slots) := by
  simp only [rmok, Bool.and_eq_true, Nat.ble_eq] at h
  exact ⟨⟨h.1, h.2.1⟩, h.2.2⟩
def aPre (E : aE) (g : aG) (h : aH) (U : State) : Prop := va_P g.1 CLS (cw g h) U.heap ∧ va_K g.1 CLS (aT g) U ∧ U.heap.size = g.2.2.1 + h.1.length ∧ aX E g U
/-- A METHOD'S CONTRACT: from these arguments and this heap it returns, and answer and heap are as K says -/
def Call (E : aE) (μ : aM) (avs : List Value) (h : aH) (K : Value → aH → Prop) : Prop :=
  ∀ g : aG, Met E.1 (M_y μ) (.code (M_y μ) (M_c μ) (M_L μ) (M_r μ) :: gtb) (M_R μ) (va_Pc (avs.map (cv g)) (aPre E g h)) (rQ μ K g) (M_R μ).cells (M_R μ).slots (aA g)
theorem aPre_blind {E : aE} {g : aG} {h : aH} {av : List Value} : FrameBlind (va_Pc av (aPre E g h)) := fun a U f mk q => ⟨q.1, q.2.1, va_K.moved (u := U) (U := U.calling f mk a) (Vm.Alike.refl U.vm) q.2.2.1, q.2.2.2.1, aX_calling q.2.2.2.2⟩
theorem aW_size {g : aG} {h : aH} {H : Heap} {s : State} {locs : List Loc} {c : Nat × Nat} (hW : aW g h H s locs c) (hz : H.size ≤ s.heap.size + c.1) (hb : g.2.2.1 ≤ s.heap.size) : H.size = g.2.2.1 + h.1.length := by
  obtain ⟨h1, h2, h3⟩ := hW
  have : g.2.2.1 + h.1.length ≤ H.size := by
    cases hl : h.1.length with
    | zero => have := h2.1; omega
    | succ n =>
      have hx : h.1[n]? = some (h.1[n]'(by omega)) := List.getElem?_eq_getElem _
      have := (h1 n _ (cw_at hx)).lt
      simp only at this
      omega
  omega
theorem aPre_of {E : aE} {g : aG} {μ : aM} {p : Program} {s : State} {m : MethodId} {args : Array Value} {meth : Method} {c : Code} {h : aH} {H : Heap} {locs : List Loc} {c' : Nat × Nat} (hF : aF E g μ p s m args meth c) (hW : aW g h H s locs c') (hsz : H.size = g.2.2.1 + h.1.length) (av : List Value) : ∀ U : State, U.heap = H → s.WarmedH U.vm → va_Pc av (aPre E g h) av.toArray U :=
  fun U hU hw => ⟨rfl, by rw [hU]; exact hW.1, va_K.moved hw.alike (F_k hF), by rw [hU]; exact hsz, aX_moved (F_X hF) (F_b hF) hW.2.1 hw hU⟩
theorem map_cat {g : aG} (hc : ∀ j, (g.2.2.2 j).category = 1) (st : List Value) : ((st.map (cv g)).map fun v => v.category).sum = (st.map fun v => v.category).sum := by
  rw [List.map_map]
  congr 1
  apply List.map_congr_left
  intro v _
  exact cv_cat hc v
def stW (st : List Value) : Bool := Nat.ble ((st.map fun v => v.category).sum) 8
theorem stW_spec {g : aG} (hc : ∀ j, (g.2.2.2 j).category = 1) {st : List Value} (h : stW st = true) : 2 * 0 + ((st.map (cv g)).map fun v => v.category).sum ≤ 8 := by
  rw [map_cat hc]
  simp only [stW, Nat.ble_eq] at h
  omega
def cpok (R : Room) (st : List Value) : Bool := Nat.ble 1 R.frames && Nat.ble ((st.map fun v => v.category).sum + (nativeFrameWords "java/lang/System" "arraycopy" 5 + 11)) R.locals
theorem cpok_spec {g : aG} (hc : ∀ j, (g.2.2.2 j).category = 1) {R : Room} {st : List Value} (h : cpok R st = true) : 1 ≤ R.frames ∧ ((st.map (cv g)).map fun v => v.category).sum + (nativeFrameWords "java/lang/System" "arraycopy" 5 + 11) ≤ R.locals := by
  rw [map_cat hc]
  simp only [cpok, Bool.and_eq_true, Nat.ble_eq] at h
  exact h
theorem W_size {p : Program} {l : Launch} {e : Env} {R : Room} {s : State} {m : MethodId} {args : Array Value} {below : List Frame} {meth : Method} {c : Code} {H : Heap} {locs : List Loc} {cells slots : Nat} {Q : State → Prop} {g : JFrame} (k : H.size ≤ s.heap.size + cells → W p l e R s m args below meth c H locs cells slots Q g) : W p l e R s m args below meth c H locs cells slots Q g :=
  fun T hT X => k (by rw [← hT]; exact X.heapSize) T hT X
theorem va_Run.mono {p : Program} {l : Launch} {e : Env} {R : Room} {s : State} {m : MethodId} {args : Array Value} {below : List Frame} {meth : Method} {c : Code} {H : Heap} {locs : List Loc} {cells slots mc ms : Nat} {g : JFrame} {rest : List Value} {Qa Qb : State → Outcome → State → Prop} {free : Addr → Prop} (h : va_Run p l e R s m args below meth c H locs cells slots mc ms g rest Qa free) (hq : ∀ (st : State) (oc : Outcome) (t : State), st.heap = H → Qa st oc t → Qb st oc t) : va_Run p l e R s m args below meth c H locs cells slots mc ms g rest Qb free := by
  intro T hT X
  obtain ⟨v, st₀, t, T', L, h0, X', hL, e1, e2, q, st⟩ := h T hT X
  exact ⟨v, st₀, t, T', L, h0, X', hL, e1, e2, hq _ _ _ h0 q, st⟩
theorem rQ_0 {μ : aM} {K : Value → aH → Prop} {g : aG} {a : Array Value} {s0 t : State} {oc : Outcome} {H : Heap} (hk : M_k μ = 0) (e : s0.heap = H) (h : rQ μ K g a s0 oc t) : va_Qv (fun u => K .null u ∧ H.size + (M_R μ).cells = g.2.2.1 + u.1.length) (aB g) (aA g) a s0 oc t := by
  unfold rQ at h; rw [hk] at h; subst e; exact h
theorem rQ_1 {μ : aM} {K : Value → aH → Prop} {g : aG} {a : Array Value} {s0 t : State} {oc : Outcome} {H : Heap} (hk : M_k μ = 1) (e : s0.heap = H) (h : rQ μ K g a s0 oc t) : va_Qi (fun r u => K (.int r) u ∧ H.size + (M_R μ).cells = g.2.2.1 + u.1.length) (aB g) (aA g) a s0 oc t := by
  unfold rQ at h; rw [hk] at h; subst e; exact h
theorem rQ_2 {μ : aM} {K : Value → aH → Prop} {g : aG} {a : Array Value} {s0 t : State} {oc : Outcome} {H : Heap} (hk : M_k μ = 2) (e : s0.heap = H) (h : rQ μ K g a s0 oc t) : va_Ql (fun r u => K (.long r) u ∧ H.size + (M_R μ).cells = g.2.2.1 + u.1.length) (aB g) (aA g) a s0 oc t := by
  unfold rQ at h; rw [hk] at h; subst e; exact h
theorem w_cpN : Cond.native arraycopyName ∈ gtb := g_mem 633 (by decide +kernel) rfl
theorem w_cpS : Cond.static arraycopyName ∈ gtb := g_mem 632 (by decide +kernel) rfl
theorem w_cpI : Cond.initialized "java/lang/System" ∈ gtb := g_mem 91 (by decide +kernel) rfl

section VR
variable {E : aE} {μ : aM} {K : Value → aH → Prop} {pc npc tgt : Nat} {L : List Value} {st : List Value} {h : aH} {c : Nat × Nat}
theorem V_getI {a idx ci j : Nat} {fs : List Nat} (hd : Dc (M_c μ) pc (.getfield idx) 3 npc) (hf : FL (M_y μ).cls idx ci j) (hs : h.1[a]? = some (.inr (ci, fs))) (hc : fs[j]? = some (0)) (k : V E μ K npc L (.int (h.2.1 a j) :: st) h c) : V E μ K pc L (.ref a :: st) h c := by
  obtain ⟨hdg, rfl⟩ := hd
  obtain ⟨⟨C, T, N⟩, hq, hj, hw⟩ := hf
  intro g p e s m args below meth cd H locs ls hF hW hL
  exact va_get (cl := CLS) (tys := aT g) (D := g.1) (ci := ci) (C := C) (T := T) (N := N) hF.1 hF.2.1 (F_w hF) (u_inG hq) (F_o hF) (F_k hF) hW.1 a (cw_O hs) hq j hj (F_w hF _ hw) (fun _ z => z) (cfs_at hc) hdg (k g p e s m args below meth cd H locs ls hF hW hL)
theorem V_getJ {a idx ci j : Nat} {fs : List Nat} (hd : Dc (M_c μ) pc (.getfield idx) 3 npc) (hf : FL (M_y μ).cls idx ci j) (hs : h.1[a]? = some (.inr (ci, fs))) (hc : fs[j]? = some (1)) (k : V E μ K npc L (.long (h.2.2 a j) :: st) h c) : V E μ K pc L (.ref a :: st) h c := by
  obtain ⟨hdg, rfl⟩ := hd
  obtain ⟨⟨C, T, N⟩, hq, hj, hw⟩ := hf
  intro g p e s m args below meth cd H locs ls hF hW hL
  exact va_get (cl := CLS) (tys := aT g) (D := g.1) (ci := ci) (C := C) (T := T) (N := N) hF.1 hF.2.1 (F_w hF) (u_inG hq) (F_o hF) (F_k hF) hW.1 a (cw_O hs) hq j hj (F_w hF _ hw) (fun _ z => z) (cfs_at hc) hdg (k g p e s m args below meth cd H locs ls hF hW hL)
theorem V_getR {a idx ci j b : Nat} {fs : List Nat} (hd : Dc (M_c μ) pc (.getfield idx) 3 npc) (hf : FL (M_y μ).cls idx ci j) (hs : h.1[a]? = some (.inr (ci, fs))) (hc : fs[j]? = some (b + 3)) (k : V E μ K npc L (.ref b :: st) h c) : V E μ K pc L (.ref a :: st) h c := by
  obtain ⟨hdg, rfl⟩ := hd
  obtain ⟨⟨C, T, N⟩, hq, hj, hw⟩ := hf
  intro g p e s m args below meth cd H locs ls hF hW hL
  exact va_get (cl := CLS) (tys := aT g) (D := g.1) (ci := ci) (C := C) (T := T) (N := N) hF.1 hF.2.1 (F_w hF) (u_inG hq) (F_o hF) (F_k hF) hW.1 a (cw_O hs) hq j hj (F_w hF _ hw) (fun _ z => z) (cfs_at hc) hdg (k g p e s m args below meth cd H locs ls hF hW hL)
theorem V_putI {a idx ci j : Nat} {fs : List Nat} {v : Int32} (hd : Dc (M_c μ) pc (.putfield idx) 3 npc) (hf : FP (M_y μ).cls idx ci j .int) (hs : h.1[a]? = some (.inr (ci, fs))) (hc : fs[j]? = some 0) (k : V E μ K npc L st (hI h a j v) c) : V E μ K pc L (.int v :: .ref a :: st) h c := by
  obtain ⟨hdg, rfl⟩ := hd
  obtain ⟨⟨C, T, N⟩, hq, hj, hw, hfin, hty, hdc⟩ := hf
  intro g p e s m args below meth cd H locs ls hF hW hL
  refine va_put (cl := CLS) (tys := aT g) (D := g.1) (ci := ci) (C := C) (T := T) (N := N) (A := aA g) hF.1 hF.2.1 (F_w hF) (u_inG hq) (tyOf ci) (u_ty hq) (u_nm hq) (F_o hF) (F_k hF) hW.1 (cw_D g h) hW.2.1 a (cw_O hs) hq j hj (F_w hF _ hw) (fun _ z => z) hfin hty rfl rfl (by rw [cfs_len]; exact (List.getElem?_eq_some_iff.mp hc).1) hdg (fun H1 locs1 q1 q2 q3 => ?_)
  rw [show cv g (.int v) = .int v from rfl, cw_putI hs hc] at q1
  exact k g p e s m args below meth cd H1 locs1 ls hF ⟨q1, q3, by first | exact hW.2.2 | (rw [hR_len]; exact hW.2.2)⟩ hL
theorem V_putZ {a idx ci j : Nat} {fs : List Nat} {v : Int32} (hd : Dc (M_c μ) pc (.putfield idx) 3 npc) (hf : FP (M_y μ).cls idx ci j .boolean) (hv : v = 0 ∨ v = 1) (hs : h.1[a]? = some (.inr (ci, fs))) (hc : fs[j]? = some 0) (k : V E μ K npc L st (hI h a j v) c) : V E μ K pc L (.int v :: .ref a :: st) h c := by
  obtain ⟨hdg, rfl⟩ := hd
  obtain ⟨⟨C, T, N⟩, hq, hj, hw, hfin, hty, hdc⟩ := hf
  intro g p e s m args below meth cd H locs ls hF hW hL
  refine va_put (cl := CLS) (tys := aT g) (D := g.1) (ci := ci) (C := C) (T := T) (N := N) (A := aA g) hF.1 hF.2.1 (F_w hF) (u_inG hq) (tyOf ci) (u_ty hq) (u_nm hq) (F_o hF) (F_k hF) hW.1 (cw_D g h) hW.2.1 a (cw_O hs) hq j hj (F_w hF _ hw) (fun _ z => z) hfin hty (by rcases hv with rfl | rfl <;> rfl) (by rcases hv with rfl | rfl <;> rfl) (by rw [cfs_len]; exact (List.getElem?_eq_some_iff.mp hc).1) hdg (fun H1 locs1 q1 q2 q3 => ?_)
  rw [show cv g (.int v) = .int v from rfl, cw_putI hs hc] at q1
  exact k g p e s m args below meth cd H1 locs1 ls hF ⟨q1, q3, by first | exact hW.2.2 | (rw [hR_len]; exact hW.2.2)⟩ hL
theorem V_putJ {a idx ci j : Nat} {fs : List Nat} {v : Int64} (hd : Dc (M_c μ) pc (.putfield idx) 3 npc) (hf : FP (M_y μ).cls idx ci j .long) (hs : h.1[a]? = some (.inr (ci, fs))) (hc : fs[j]? = some 1) (k : V E μ K npc L st (hJ h a j v) c) : V E μ K pc L (.long v :: .ref a :: st) h c := by
  obtain ⟨hdg, rfl⟩ := hd
  obtain ⟨⟨C, T, N⟩, hq, hj, hw, hfin, hty, hdc⟩ := hf
  intro g p e s m args below meth cd H locs ls hF hW hL
  refine va_put (cl := CLS) (tys := aT g) (D := g.1) (ci := ci) (C := C) (T := T) (N := N) (A := aA g) hF.1 hF.2.1 (F_w hF) (u_inG hq) (tyOf ci) (u_ty hq) (u_nm hq) (F_o hF) (F_k hF) hW.1 (cw_D g h) hW.2.1 a (cw_O hs) hq j hj (F_w hF _ hw) (fun _ z => z) hfin hty rfl rfl (by rw [cfs_len]; exact (List.getElem?_eq_some_iff.mp hc).1) hdg (fun H1 locs1 q1 q2 q3 => ?_)
  rw [show cv g (.long v) = .long v from rfl, cw_putJ hs hc] at q1
  exact k g p e s m args below meth cd H1 locs1 ls hF ⟨q1, q3, by first | exact hW.2.2 | (rw [hR_len]; exact hW.2.2)⟩ hL
theorem V_putFI {a idx ci j : Nat} {fs : List Nat} {v : Int32} (hd : Dc (M_c μ) pc (.putfield idx) 3 npc) (hf : FF (M_y μ).cls idx ci j .int) (hin : (M_y μ).name = "<init>") (hs : h.1[a]? = some (.inr (ci, fs))) (hc : fs[j]? = some 0) (k : V E μ K npc L st (hI h a j v) c) : V E μ K pc L (.int v :: .ref a :: st) h c := by
  obtain ⟨hdg, rfl⟩ := hd
  obtain ⟨⟨C, T, N⟩, hq, hj, hw, hfin, hty, hdc⟩ := hf
  intro g p e s m args below meth cd H locs ls hF hW hL
  refine va_putF (cl := CLS) (tys := aT g) (D := g.1) (ci := ci) (C := C) (T := T) (N := N) (A := aA g) hF.1 hF.2.1 (F_w hF) (u_inG hq) (tyOf ci) (u_ty hq) (u_nm hq) (F_o hF) (F_k hF) hW.1 (cw_D g h) hW.2.1 a (cw_O hs) hq j hj (F_w hF _ hw) (fun _ z => z) hfin (hF.2.2.2.2.2.1.trans hin) hdc hty rfl rfl (by rw [cfs_len]; exact (List.getElem?_eq_some_iff.mp hc).1) hdg (fun H1 locs1 q1 q2 q3 => ?_)
  rw [show cv g (.int v) = .int v from rfl, cw_putI hs hc] at q1
  exact k g p e s m args below meth cd H1 locs1 ls hF ⟨q1, q3, by first | exact hW.2.2 | (rw [hR_len]; exact hW.2.2)⟩ hL
theorem V_putFR {a idx ci j w : Nat} {ty : FieldType} {fs : List Nat} {v : Nat} (hd : Dc (M_c μ) pc (.putfield idx) 3 npc) (hf : FF (M_y μ).cls idx ci j ty) (hin : (M_y μ).name = "<init>") (ht : aRf ty = true) (hs : h.1[a]? = some (.inr (ci, fs))) (hc : fs[j]? = some w) (k : V E μ K npc L st (hR h a j (v + 3)) c) : V E μ K pc L (.ref v :: .ref a :: st) h c := by
  obtain ⟨hdg, rfl⟩ := hd
  obtain ⟨⟨C, T, N⟩, hq, hj, hw, hfin, hty, hdc⟩ := hf
  intro g p e s m args below meth cd H locs ls hF hW hL
  refine va_putF (cl := CLS) (tys := aT g) (D := g.1) (ci := ci) (C := C) (T := T) (N := N) (A := aA g) hF.1 hF.2.1 (F_w hF) (u_inG hq) (tyOf ci) (u_ty hq) (u_nm hq) (F_o hF) (F_k hF) hW.1 (cw_D g h) hW.2.1 a (cw_O hs) hq j hj (F_w hF _ hw) (fun _ z => z) hfin (hF.2.2.2.2.2.1.trans hin) hdc hty (aRf_n ht) (aRf_f ht) (by rw [cfs_len]; exact (List.getElem?_eq_some_iff.mp hc).1) hdg (fun H1 locs1 q1 q2 q3 => ?_)
  rw [show cv g (.ref v) = .ref (g.2.2.1 + v) from rfl, cw_putR hs (List.getElem?_eq_some_iff.mp hc).1] at q1
  exact k g p e s m args below meth cd H1 locs1 ls hF ⟨q1, q3, by first | exact hW.2.2 | (rw [hR_len]; exact hW.2.2)⟩ hL
theorem V_iald {a n : Nat} {rs : List Nat} {i : Int32} (hd : Dc (M_c μ) pc .iaload 1 npc) (hs : h.1[a]? = some (.inl (0, n, rs))) (hi : vp_in i n) (k : V E μ K npc L (.int (h.2.1 a i.toNatClampNeg) :: st) h c) : V E μ K pc L (.int i :: .ref a :: st) h c := by
  obtain ⟨hdg, rfl⟩ := hd
  intro g p e s m args below meth cd H locs ls hF hW hL
  exact va_iald hF.1 hF.2.1 (F_k hF) hW.1 a 0 (cw_I hs (by decide)) rfl hi hdg (k g p e s m args below meth cd H locs ls hF hW hL)
theorem V_bald {a n : Nat} {rs : List Nat} {i : Int32} (hd : Dc (M_c μ) pc .baload 1 npc) (hs : h.1[a]? = some (.inl (1, n, rs))) (hi : vp_in i n) (k : V E μ K npc L (.int (h.2.1 a i.toNatClampNeg) :: st) h c) : V E μ K pc L (.int i :: .ref a :: st) h c := by
  obtain ⟨hdg, rfl⟩ := hd
  intro g p e s m args below meth cd H locs ls hF hW hL
  exact va_bald hF.1 hF.2.1 (F_k hF) hW.1 a 1 (cw_I hs (by decide)) rfl hi hdg (k g p e s m args below meth cd H locs ls hF hW hL)
theorem V_zald {a n : Nat} {rs : List Nat} {i : Int32} (hd : Dc (M_c μ) pc .baload 1 npc) (hs : h.1[a]? = some (.inl (2, n, rs))) (hi : vp_in i n) (k : V E μ K npc L (.int (h.2.1 a i.toNatClampNeg) :: st) h c) : V E μ K pc L (.int i :: .ref a :: st) h c := by
  obtain ⟨hdg, rfl⟩ := hd
  intro g p e s m args below meth cd H locs ls hF hW hL
  exact va_zald hF.1 hF.2.1 (F_k hF) hW.1 a 2 (cw_I hs (by decide)) rfl hi hdg (k g p e s m args below meth cd H locs ls hF hW hL)
theorem V_lald {a n : Nat} {rs : List Nat} {i : Int32} (hd : Dc (M_c μ) pc .laload 1 npc) (hs : h.1[a]? = some (.inl (3, n, rs))) (hi : vp_in i n) (k : V E μ K npc L (.long (h.2.2 a i.toNatClampNeg) :: st) h c) : V E μ K pc L (.int i :: .ref a :: st) h c := by
  obtain ⟨hdg, rfl⟩ := hd
  intro g p e s m args below meth cd H locs ls hF hW hL
  exact va_lald hF.1 hF.2.1 (F_k hF) hW.1 a 3 (cw_J hs) rfl hi hdg (k g p e s m args below meth cd H locs ls hF hW hL)
theorem V_aald0 {a n b : Nat} {rs : List Nat} {i : Int32} (hd : Dc (M_c μ) pc .aaload 1 npc) (hs : h.1[a]? = some (.inl (4, n, rs))) (hi : vp_in i n) (hc : rs.getD i.toNatClampNeg 2 = b + 3) (k : V E μ K npc L (.ref b :: st) h c) : V E μ K pc L (.int i :: .ref a :: st) h c := by
  obtain ⟨hdg, rfl⟩ := hd
  intro g p e s m args below meth cd H locs ls hF hW hL
  refine va_aldq hF.1 hF.2.1 (F_k hF) hW.1 a 4 (cw_Q (t := 0) hs) rfl hi hdg ?_
  have h1 : va_rf (crf g rs i.toNatClampNeg) = .ref (g.2.2.1 + b) := by simp only [crf, hc]; rfl
  rw [h1]
  exact k g p e s m args below meth cd H locs ls hF hW hL
theorem V_aast0 {a n b ci : Nat} {rs fs : List Nat} {i : Int32} (hd : Dc (M_c μ) pc .aastore 1 npc) (hs : h.1[a]? = some (.inl (4, n, rs))) (hb : h.1[b]? = some (.inr (ci, fs))) (hci : CLS[ci]? = some (RX1, TX1, 5)) (hi : vp_in i n) (hr : i.toNatClampNeg < rs.length) (k : V E μ K npc L st (hR h a i.toNatClampNeg (b + 3)) c) : V E μ K pc L (.ref b :: .int i :: .ref a :: st) h c := by
  obtain ⟨hdg, rfl⟩ := hd
  intro g p e s m args below meth cd H locs ls hF hW hL
  refine va_astq (A := aA g) hF.1 hF.2.1 (F_k hF) hW.1 (cw_D g h) hW.2.1 a 4 b ci (cw_Q (t := 0) hs) rfl (cw_O hb) hci hi hdg (fun H1 locs1 q1 q2 q3 => ?_)
  rw [cw_setR hs hr] at q1
  exact k g p e s m args below meth cd H1 locs1 ls hF ⟨q1, q3, by rw [hR_len]; exact hW.2.2⟩ hL
theorem V_aald1 {a n b : Nat} {rs : List Nat} {i : Int32} (hd : Dc (M_c μ) pc .aaload 1 npc) (hs : h.1[a]? = some (.inl (5, n, rs))) (hi : vp_in i n) (hc : rs.getD i.toNatClampNeg 2 = b + 3) (k : V E μ K npc L (.ref b :: st) h c) : V E μ K pc L (.int i :: .ref a :: st) h c := by
  obtain ⟨hdg, rfl⟩ := hd
  intro g p e s m args below meth cd H locs ls hF hW hL
  refine va_aldq hF.1 hF.2.1 (F_k hF) hW.1 a 5 (cw_Q (t := 1) hs) rfl hi hdg ?_
  have h1 : va_rf (crf g rs i.toNatClampNeg) = .ref (g.2.2.1 + b) := by simp only [crf, hc]; rfl
  rw [h1]
  exact k g p e s m args below meth cd H locs ls hF hW hL
theorem V_aast1 {a n b ci : Nat} {rs fs : List Nat} {i : Int32} (hd : Dc (M_c μ) pc .aastore 1 npc) (hs : h.1[a]? = some (.inl (5, n, rs))) (hb : h.1[b]? = some (.inr (ci, fs))) (hci : CLS[ci]? = some (RX6, TX6, 3)) (hi : vp_in i n) (hr : i.toNatClampNeg < rs.length) (k : V E μ K npc L st (hR h a i.toNatClampNeg (b + 3)) c) : V E μ K pc L (.ref b :: .int i :: .ref a :: st) h c := by
  obtain ⟨hdg, rfl⟩ := hd
  intro g p e s m args below meth cd H locs ls hF hW hL
  refine va_astq (A := aA g) hF.1 hF.2.1 (F_k hF) hW.1 (cw_D g h) hW.2.1 a 5 b ci (cw_Q (t := 1) hs) rfl (cw_O hb) hci hi hdg (fun H1 locs1 q1 q2 q3 => ?_)
  rw [cw_setR hs hr] at q1
  exact k g p e s m args below meth cd H1 locs1 ls hF ⟨q1, q3, by rw [hR_len]; exact hW.2.2⟩ hL
theorem V_iast {a n : Nat} {rs : List Nat} {i v : Int32} (hd : Dc (M_c μ) pc .iastore 1 npc) (hs : h.1[a]? = some (.inl (0, n, rs))) (hi : vp_in i n) (k : V E μ K npc L st (hI h a i.toNatClampNeg (v)) c) : V E μ K pc L (.int v :: .int i :: .ref a :: st) h c := by
  obtain ⟨hdg, rfl⟩ := hd
  intro g p e s m args below meth cd H locs ls hF hW hL
  refine va_iast (A := aA g) hF.1 hF.2.1 (F_k hF) hW.1 (cw_D g h) hW.2.1 a 0 (cw_I hs (by decide)) rfl hi hdg (fun H1 locs1 q1 q2 q3 => ?_)
  rw [cw_setI hs (by decide)] at q1
  exact k g p e s m args below meth cd H1 locs1 ls hF ⟨q1, q3, hW.2.2⟩ hL
theorem V_bast {a n : Nat} {rs : List Nat} {i v : Int32} (hd : Dc (M_c μ) pc .bastore 1 npc) (hs : h.1[a]? = some (.inl (1, n, rs))) (hi : vp_in i n) (k : V E μ K npc L st (hI h a i.toNatClampNeg (vp_nar .byte v)) c) : V E μ K pc L (.int v :: .int i :: .ref a :: st) h c := by
  obtain ⟨hdg, rfl⟩ := hd
  intro g p e s m args below meth cd H locs ls hF hW hL
  refine va_bast (A := aA g) hF.1 hF.2.1 (F_k hF) hW.1 (cw_D g h) hW.2.1 a 1 (cw_I hs (by decide)) rfl hi hdg (fun H1 locs1 q1 q2 q3 => ?_)
  rw [cw_setI hs (by decide)] at q1
  exact k g p e s m args below meth cd H1 locs1 ls hF ⟨q1, q3, hW.2.2⟩ hL
theorem V_zast {a n : Nat} {rs : List Nat} {i v : Int32} (hd : Dc (M_c μ) pc .bastore 1 npc) (hs : h.1[a]? = some (.inl (2, n, rs))) (hi : vp_in i n) (k : V E μ K npc L st (hI h a i.toNatClampNeg (vp_nar .boolean v)) c) : V E μ K pc L (.int v :: .int i :: .ref a :: st) h c := by
  obtain ⟨hdg, rfl⟩ := hd
  intro g p e s m args below meth cd H locs ls hF hW hL
  refine va_zast (A := aA g) hF.1 hF.2.1 (F_k hF) hW.1 (cw_D g h) hW.2.1 a 2 (cw_I hs (by decide)) rfl hi hdg (fun H1 locs1 q1 q2 q3 => ?_)
  rw [cw_setI hs (by decide)] at q1
  exact k g p e s m args below meth cd H1 locs1 ls hF ⟨q1, q3, hW.2.2⟩ hL
theorem V_last {a n : Nat} {rs : List Nat} {i : Int32} {v : Int64} (hd : Dc (M_c μ) pc .lastore 1 npc) (hs : h.1[a]? = some (.inl (3, n, rs))) (hi : vp_in i n) (k : V E μ K npc L st (hJ h a i.toNatClampNeg v) c) : V E μ K pc L (.long v :: .int i :: .ref a :: st) h c := by
  obtain ⟨hdg, rfl⟩ := hd
  intro g p e s m args below meth cd H locs ls hF hW hL
  refine va_last (A := aA g) hF.1 hF.2.1 (F_k hF) hW.1 (cw_D g h) hW.2.1 a 3 (cw_J hs) rfl hi hdg (fun H1 locs1 q1 q2 q3 => ?_)
  rw [cw_setJ hs] at q1
  exact k g p e s m args below meth cd H1 locs1 ls hF ⟨q1, q3, hW.2.2⟩ hL
theorem V_alen {a t n : Nat} {rs : List Nat} {v : Int32} (hd : Dc (M_c μ) pc .arraylength 1 npc) (hs : h.1[a]? = some (.inl (t, n, rs))) (ht : t < 6) (hv : Int32.ofNat n = v) (k : V E μ K npc L (.int v :: st) h c) : V E μ K pc L (.ref a :: st) h c := by
  obtain ⟨hdg, rfl⟩ := hd
  intro g p e s m args below meth cd H locs ls hF hW hL
  obtain ⟨ty, hty⟩ : ∃ ty, (aT g)[t]? = some (g.2.1 t, ty) := by
    match t, ht with
    | 0, _ => exact ⟨_, rfl⟩
    | 1, _ => exact ⟨_, rfl⟩
    | 2, _ => exact ⟨_, rfl⟩
    | 3, _ => exact ⟨_, rfl⟩
    | 4, _ => exact ⟨_, rfl⟩
    | 5, _ => exact ⟨_, rfl⟩
  exact va_alen hF.1 hF.2.1 (F_k hF) hW.1 a t (cw_at hs) hty hv hdg (k g p e s m args below meth cd H locs ls hF hW hL)
theorem V_copyI {a b idx n0 n1 : Nat} {r0 r1 : List Nat} {sp dp n : Int32} (hd : Dc (M_c μ) pc (.invokestatic idx) 3 npc) (hl : Cond.methodLink (M_y μ).cls idx arraycopyName ∈ gtb) (hs0 : h.1[a]? = some (.inl (0, n0, r0))) (hs1 : h.1[b]? = some (.inl (0, n1, r1))) (h1 : ¬ sp < 0) (h2 : ¬ dp < 0) (h3 : ¬ n < 0) (h4 : sp.toNatClampNeg + n.toNatClampNeg ≤ n0) (h5 : dp.toNatClampNeg + n.toNatClampNeg ≤ n1) (hr : cpok (M_R μ) st = true) (k : V E μ K npc L st (hCI h a b sp.toNatClampNeg dp.toNatClampNeg n.toNatClampNeg) c) : V E μ K pc L (.int n :: .int dp :: .ref b :: .int sp :: .ref a :: st) h c := by
  obtain ⟨hdg, rfl⟩ := hd
  intro g p e s m args below meth cd H locs ls hF hW hL
  obtain ⟨r1, r2⟩ := cpok_spec (aX_cat (F_X hF)) hr
  refine va_copyi (A := aA g) hF.1 hF.2.1 (hF.2.2.1.trans hL.1.symm) (F_o hF) (F_w hF _ hl) (F_w hF _ w_cpN) (F_w hF _ w_cpS) (F_w hF _ w_cpI) (F_k hF) hW.1 (cw_D g h) hW.2.1 a b 0 0 (cw_I hs0 (by decide)) (cw_I hs1 (by decide)) rfl rfl rfl h1 h2 h3 h4 h5 (fun _ _ => rfl) r1 r2 hdg (fun H1 locs1 q1 q2 q3 => ?_)
  rw [cw_setCI hs1 (by decide)] at q1
  exact k g p e s m args below meth cd H1 locs1 ls hF ⟨q1, q3, hW.2.2⟩ hL
theorem V_copyJ {a b idx n0 n1 : Nat} {r0 r1 : List Nat} {sp dp n : Int32} (hd : Dc (M_c μ) pc (.invokestatic idx) 3 npc) (hl : Cond.methodLink (M_y μ).cls idx arraycopyName ∈ gtb) (hs0 : h.1[a]? = some (.inl (3, n0, r0))) (hs1 : h.1[b]? = some (.inl (3, n1, r1))) (h1 : ¬ sp < 0) (h2 : ¬ dp < 0) (h3 : ¬ n < 0) (h4 : sp.toNatClampNeg + n.toNatClampNeg ≤ n0) (h5 : dp.toNatClampNeg + n.toNatClampNeg ≤ n1) (hr : cpok (M_R μ) st = true) (k : V E μ K npc L st (hCJ h a b sp.toNatClampNeg dp.toNatClampNeg n.toNatClampNeg) c) : V E μ K pc L (.int n :: .int dp :: .ref b :: .int sp :: .ref a :: st) h c := by
  obtain ⟨hdg, rfl⟩ := hd
  intro g p e s m args below meth cd H locs ls hF hW hL
  obtain ⟨r1, r2⟩ := cpok_spec (aX_cat (F_X hF)) hr
  refine va_copyl (A := aA g) hF.1 hF.2.1 (hF.2.2.1.trans hL.1.symm) (F_o hF) (F_w hF _ hl) (F_w hF _ w_cpN) (F_w hF _ w_cpS) (F_w hF _ w_cpI) (F_k hF) hW.1 (cw_D g h) hW.2.1 a b 3 3 (cw_J hs0) (cw_J hs1) rfl rfl rfl h1 h2 h3 h4 h5 (fun _ _ => rfl) r1 r2 hdg (fun H1 locs1 q1 q2 q3 => ?_)
  rw [cw_setCJ hs1] at q1
  exact k g p e s m args below meth cd H1 locs1 ls hF ⟨q1, q3, hW.2.2⟩ hL

theorem V_callV0 {idx : Nat} {μ2 : aM} {a : Nat} (As : List Value) (hd : Dc (M_c μ) pc (.invokevirtual idx) 3 npc) (ok : okV (M_y μ).cls idx μ2) {ci : Nat} {fs : List Nat} (hs : h.1[a]? = some (.inr (ci, fs))) (hci : (CLS[ci]?).map (fun q => q.1) = some (M_y μ2).cls) (hk : M_k μ2 = 0) (hr : rmok (M_R μ) μ2 c = true) (hn : As.length = M_n μ2) (hst : stW st = true) (k : Call E μ2 (.ref a :: As) h (fun r h2 => V E μ K npc L st h2 (c.1 + (M_R μ2).cells, c.2 + (M_R μ2).slots))) : V E μ K pc L (As.reverse ++ .ref a :: st) h c := by
  obtain ⟨hdg, rfl⟩ := hd
  have hr := rmok_spec hr
  intro g p e s m args below meth cd H locs ls hF hW hL
  refine W_size (fun hz => ?_)
  have hsz := aW_size hW hz (F_b hF)
  have hM := k g
  have hrun := va_runV (S := ⟨hF.1, hF.2.1, hF.2.2.1, F_o hF, F_w hF⟩) (b := g.2.2.1 + a) (C := (M_y μ2).cls) (As := (As.map (cv g))) (rest := st.map (cv g)) (g := F0 m pc ls ((As.reverse ++ .ref a :: st).map (cv g))) (locs := locs) (below := below) (meth := meth) (e := e) (R := M_R μ) (cells := c.1) (slots := c.2) (H := H) hM
    (⟨callB_of (M_n μ2) (F_w hF) (g_goodIn ok.1.2.1) rfl rfl rfl (F_w hF _ ok.1.2.2.1) (F_w hF _ ok.2.1) ok.1.2.2.2 hr.1, F_w hF _ ok.2.2.1, F_w hF _ ok.2.2.2⟩)
    ⟨aPre_blind, by
      obtain ⟨q, hq1, hq2⟩ := Option.map_eq_some_iff.mp hci
      have := va_recv (F_k hF) hW.1 hq1 (cw_O hs)
      rw [hq2] at this
      exact this, aPre_of hF hW hsz ((.ref a :: As).map (cv g))⟩ rfl (by rw [List.length_map]; exact hn) hL.1 (by simp [cv]) (stW_spec (aX_cat (F_X hF)) hst) hdg hr.2
  refine va_callv (hrun.mono (fun s0 oc t e1 hq => rQ_0 hk e1 hq)) hW.2.1 (fun q _ z => z) (fun q z => z) (fun u t H1 locs1 q1 q2 q3 q4 q5 q6 q7 => ?_)
  subst q1
  exact q3.1 g p e s m args below meth cd t.heap locs1 ls hF ⟨q4, q7, by have := q3.2; have := hW.2.2; show s.heap.size + (c.1 + (M_R μ2).cells) = _; omega⟩ hL
theorem V_callV1 {idx : Nat} {μ2 : aM} {a : Nat} (As : List Value) (hd : Dc (M_c μ) pc (.invokevirtual idx) 3 npc) (ok : okV (M_y μ).cls idx μ2) {ci : Nat} {fs : List Nat} (hs : h.1[a]? = some (.inr (ci, fs))) (hci : (CLS[ci]?).map (fun q => q.1) = some (M_y μ2).cls) (hk : M_k μ2 = 1) (hr : rmok (M_R μ) μ2 c = true) (hn : As.length = M_n μ2) (hst : stW st = true) (k : Call E μ2 (.ref a :: As) h (fun r h2 => V E μ K npc L (r :: st) h2 (c.1 + (M_R μ2).cells, c.2 + (M_R μ2).slots))) : V E μ K pc L (As.reverse ++ .ref a :: st) h c := by
  obtain ⟨hdg, rfl⟩ := hd
  have hr := rmok_spec hr
  intro g p e s m args below meth cd H locs ls hF hW hL
  refine W_size (fun hz => ?_)
  have hsz := aW_size hW hz (F_b hF)
  have hM := k g
  have hrun := va_runV (S := ⟨hF.1, hF.2.1, hF.2.2.1, F_o hF, F_w hF⟩) (b := g.2.2.1 + a) (C := (M_y μ2).cls) (As := (As.map (cv g))) (rest := st.map (cv g)) (g := F0 m pc ls ((As.reverse ++ .ref a :: st).map (cv g))) (locs := locs) (below := below) (meth := meth) (e := e) (R := M_R μ) (cells := c.1) (slots := c.2) (H := H) hM
    (⟨callB_of (M_n μ2) (F_w hF) (g_goodIn ok.1.2.1) rfl rfl rfl (F_w hF _ ok.1.2.2.1) (F_w hF _ ok.2.1) ok.1.2.2.2 hr.1, F_w hF _ ok.2.2.1, F_w hF _ ok.2.2.2⟩)
    ⟨aPre_blind, by
      obtain ⟨q, hq1, hq2⟩ := Option.map_eq_some_iff.mp hci
      have := va_recv (F_k hF) hW.1 hq1 (cw_O hs)
      rw [hq2] at this
      exact this, aPre_of hF hW hsz ((.ref a :: As).map (cv g))⟩ rfl (by rw [List.length_map]; exact hn) hL.1 (by simp [cv]) (stW_spec (aX_cat (F_X hF)) hst) hdg hr.2
  refine va_calli (hrun.mono (fun s0 oc t e1 hq => rQ_1 hk e1 hq)) hW.2.1 (fun q _ z => z) (fun q z => z) (fun r u t H1 locs1 q1 q2 q3 q4 q5 q6 q7 => ?_)
  subst q1
  exact q3.1 g p e s m args below meth cd t.heap locs1 ls hF ⟨q4, q7, by have := q3.2; have := hW.2.2; show s.heap.size + (c.1 + (M_R μ2).cells) = _; omega⟩ hL
theorem V_callV2 {idx : Nat} {μ2 : aM} {a : Nat} (As : List Value) (hd : Dc (M_c μ) pc (.invokevirtual idx) 3 npc) (ok : okV (M_y μ).cls idx μ2) {ci : Nat} {fs : List Nat} (hs : h.1[a]? = some (.inr (ci, fs))) (hci : (CLS[ci]?).map (fun q => q.1) = some (M_y μ2).cls) (hk : M_k μ2 = 2) (hr : rmok (M_R μ) μ2 c = true) (hn : As.length = M_n μ2) (hst : stW st = true) (k : Call E μ2 (.ref a :: As) h (fun r h2 => V E μ K npc L (r :: st) h2 (c.1 + (M_R μ2).cells, c.2 + (M_R μ2).slots))) : V E μ K pc L (As.reverse ++ .ref a :: st) h c := by
  obtain ⟨hdg, rfl⟩ := hd
  have hr := rmok_spec hr
  intro g p e s m args below meth cd H locs ls hF hW hL
  refine W_size (fun hz => ?_)
  have hsz := aW_size hW hz (F_b hF)
  have hM := k g
  have hrun := va_runV (S := ⟨hF.1, hF.2.1, hF.2.2.1, F_o hF, F_w hF⟩) (b := g.2.2.1 + a) (C := (M_y μ2).cls) (As := (As.map (cv g))) (rest := st.map (cv g)) (g := F0 m pc ls ((As.reverse ++ .ref a :: st).map (cv g))) (locs := locs) (below := below) (meth := meth) (e := e) (R := M_R μ) (cells := c.1) (slots := c.2) (H := H) hM
    (⟨callB_of (M_n μ2) (F_w hF) (g_goodIn ok.1.2.1) rfl rfl rfl (F_w hF _ ok.1.2.2.1) (F_w hF _ ok.2.1) ok.1.2.2.2 hr.1, F_w hF _ ok.2.2.1, F_w hF _ ok.2.2.2⟩)
    ⟨aPre_blind, by
      obtain ⟨q, hq1, hq2⟩ := Option.map_eq_some_iff.mp hci
      have := va_recv (F_k hF) hW.1 hq1 (cw_O hs)
      rw [hq2] at this
      exact this, aPre_of hF hW hsz ((.ref a :: As).map (cv g))⟩ rfl (by rw [List.length_map]; exact hn) hL.1 (by simp [cv]) (stW_spec (aX_cat (F_X hF)) hst) hdg hr.2
  refine va_calll (hrun.mono (fun s0 oc t e1 hq => rQ_2 hk e1 hq)) hW.2.1 (fun q _ z => z) (fun q z => z) (fun r u t H1 locs1 q1 q2 q3 q4 q5 q6 q7 => ?_)
  subst q1
  exact q3.1 g p e s m args below meth cd t.heap locs1 ls hF ⟨q4, q7, by have := q3.2; have := hW.2.2; show s.heap.size + (c.1 + (M_R μ2).cells) = _; omega⟩ hL
theorem V_callS0 {idx : Nat} {μ2 : aM} (As : List Value) (hd : Dc (M_c μ) pc (.invokestatic idx) 3 npc) (ok : okS (M_y μ).cls idx μ2) (hk : M_k μ2 = 0) (hr : rmok (M_R μ) μ2 c = true) (hn : As.length = M_n μ2) (hst : stW st = true) (k : Call E μ2 (As) h (fun r h2 => V E μ K npc L st h2 (c.1 + (M_R μ2).cells, c.2 + (M_R μ2).slots))) : V E μ K pc L (As.reverse ++ st) h c := by
  obtain ⟨hdg, rfl⟩ := hd
  have hr := rmok_spec hr
  intro g p e s m args below meth cd H locs ls hF hW hL
  refine W_size (fun hz => ?_)
  have hsz := aW_size hW hz (F_b hF)
  have hM := k g
  have hrun := va_runS (S := ⟨hF.1, hF.2.1, hF.2.2.1, F_o hF, F_w hF⟩) (As := (As.map (cv g))) (rest := st.map (cv g)) (g := F0 m pc ls ((As.reverse ++ st).map (cv g))) (locs := locs) (below := below) (meth := meth) (e := e) (R := M_R μ) (cells := c.1) (slots := c.2) (H := H) hM
    (⟨callB_of (M_n μ2) (F_w hF) (g_goodIn ok.1.2.1) rfl rfl rfl (F_w hF _ ok.1.2.2.1) (F_w hF _ ok.2.1) ok.1.2.2.2 hr.1, F_w hF _ ok.2.2⟩)
    ⟨aPre_blind, aPre_of hF hW hsz (As.map (cv g))⟩ rfl (by rw [List.length_map]; exact hn) hL.1 (by simp [cv]) (stW_spec (aX_cat (F_X hF)) hst) hdg hr.2
  refine va_callv (hrun.mono (fun s0 oc t e1 hq => rQ_0 hk e1 hq)) hW.2.1 (fun q _ z => z) (fun q z => z) (fun u t H1 locs1 q1 q2 q3 q4 q5 q6 q7 => ?_)
  subst q1
  exact q3.1 g p e s m args below meth cd t.heap locs1 ls hF ⟨q4, q7, by have := q3.2; have := hW.2.2; show s.heap.size + (c.1 + (M_R μ2).cells) = _; omega⟩ hL
theorem V_callS1 {idx : Nat} {μ2 : aM} (As : List Value) (hd : Dc (M_c μ) pc (.invokestatic idx) 3 npc) (ok : okS (M_y μ).cls idx μ2) (hk : M_k μ2 = 1) (hr : rmok (M_R μ) μ2 c = true) (hn : As.length = M_n μ2) (hst : stW st = true) (k : Call E μ2 (As) h (fun r h2 => V E μ K npc L (r :: st) h2 (c.1 + (M_R μ2).cells, c.2 + (M_R μ2).slots))) : V E μ K pc L (As.reverse ++ st) h c := by
  obtain ⟨hdg, rfl⟩ := hd
  have hr := rmok_spec hr
  intro g p e s m args below meth cd H locs ls hF hW hL
  refine W_size (fun hz => ?_)
  have hsz := aW_size hW hz (F_b hF)
  have hM := k g
  have hrun := va_runS (S := ⟨hF.1, hF.2.1, hF.2.2.1, F_o hF, F_w hF⟩) (As := (As.map (cv g))) (rest := st.map (cv g)) (g := F0 m pc ls ((As.reverse ++ st).map (cv g))) (locs := locs) (below := below) (meth := meth) (e := e) (R := M_R μ) (cells := c.1) (slots := c.2) (H := H) hM
    (⟨callB_of (M_n μ2) (F_w hF) (g_goodIn ok.1.2.1) rfl rfl rfl (F_w hF _ ok.1.2.2.1) (F_w hF _ ok.2.1) ok.1.2.2.2 hr.1, F_w hF _ ok.2.2⟩)
    ⟨aPre_blind, aPre_of hF hW hsz (As.map (cv g))⟩ rfl (by rw [List.length_map]; exact hn) hL.1 (by simp [cv]) (stW_spec (aX_cat (F_X hF)) hst) hdg hr.2
  refine va_calli (hrun.mono (fun s0 oc t e1 hq => rQ_1 hk e1 hq)) hW.2.1 (fun q _ z => z) (fun q z => z) (fun r u t H1 locs1 q1 q2 q3 q4 q5 q6 q7 => ?_)
  subst q1
  exact q3.1 g p e s m args below meth cd t.heap locs1 ls hF ⟨q4, q7, by have := q3.2; have := hW.2.2; show s.heap.size + (c.1 + (M_R μ2).cells) = _; omega⟩ hL
theorem V_callS2 {idx : Nat} {μ2 : aM} (As : List Value) (hd : Dc (M_c μ) pc (.invokestatic idx) 3 npc) (ok : okS (M_y μ).cls idx μ2) (hk : M_k μ2 = 2) (hr : rmok (M_R μ) μ2 c = true) (hn : As.length = M_n μ2) (hst : stW st = true) (k : Call E μ2 (As) h (fun r h2 => V E μ K npc L (r :: st) h2 (c.1 + (M_R μ2).cells, c.2 + (M_R μ2).slots))) : V E μ K pc L (As.reverse ++ st) h c := by
  obtain ⟨hdg, rfl⟩ := hd
  have hr := rmok_spec hr
  intro g p e s m args below meth cd H locs ls hF hW hL
  refine W_size (fun hz => ?_)
  have hsz := aW_size hW hz (F_b hF)
  have hM := k g
  have hrun := va_runS (S := ⟨hF.1, hF.2.1, hF.2.2.1, F_o hF, F_w hF⟩) (As := (As.map (cv g))) (rest := st.map (cv g)) (g := F0 m pc ls ((As.reverse ++ st).map (cv g))) (locs := locs) (below := below) (meth := meth) (e := e) (R := M_R μ) (cells := c.1) (slots := c.2) (H := H) hM
    (⟨callB_of (M_n μ2) (F_w hF) (g_goodIn ok.1.2.1) rfl rfl rfl (F_w hF _ ok.1.2.2.1) (F_w hF _ ok.2.1) ok.1.2.2.2 hr.1, F_w hF _ ok.2.2⟩)
    ⟨aPre_blind, aPre_of hF hW hsz (As.map (cv g))⟩ rfl (by rw [List.length_map]; exact hn) hL.1 (by simp [cv]) (stW_spec (aX_cat (F_X hF)) hst) hdg hr.2
  refine va_calll (hrun.mono (fun s0 oc t e1 hq => rQ_2 hk e1 hq)) hW.2.1 (fun q _ z => z) (fun q z => z) (fun r u t H1 locs1 q1 q2 q3 q4 q5 q6 q7 => ?_)
  subst q1
  exact q3.1 g p e s m args below meth cd t.heap locs1 ls hF ⟨q4, q7, by have := q3.2; have := hW.2.2; show s.heap.size + (c.1 + (M_R μ2).cells) = _; omega⟩ hL
theorem V_callI0 {idx : Nat} {μ2 : aM} {a : Nat} (As : List Value) (hd : Dc (M_c μ) pc (.invokespecial idx) 3 npc) (ok : okI (M_y μ).cls idx μ2) (hret : M_r μ2 = none) (hk : M_k μ2 = 0) (hr : rmok (M_R μ) μ2 c = true) (hn : As.length = M_n μ2) (hst : stW st = true) (k : Call E μ2 (.ref a :: As) h (fun r h2 => V E μ K npc L st h2 (c.1 + (M_R μ2).cells, c.2 + (M_R μ2).slots))) : V E μ K pc L (As.reverse ++ .ref a :: st) h c := by
  obtain ⟨hdg, rfl⟩ := hd
  have hr := rmok_spec hr
  intro g p e s m args below meth cd H locs ls hF hW hL
  refine W_size (fun hz => ?_)
  have hsz := aW_size hW hz (F_b hF)
  have hM := k g
  have hrun := va_runI (S := ⟨hF.1, hF.2.1, hF.2.2.1, F_o hF, F_w hF⟩) (b := g.2.2.1 + a) (As := (As.map (cv g))) (rest := st.map (cv g)) (g := F0 m pc ls ((As.reverse ++ .ref a :: st).map (cv g))) (locs := locs) (below := below) (meth := meth) (e := e) (R := M_R μ) (cells := c.1) (slots := c.2) (H := H) hM
    (⟨callB_of (M_n μ2) (F_w hF) (g_goodIn ok.1.2.1) (by rw [hret]) rfl rfl (F_w hF _ ok.1.2.2.1) (F_w hF _ ok.2.1) ok.1.2.2.2 hr.1, ok.2.2.2, F_w hF _ ok.2.2.1⟩)
    ⟨aPre_blind, aPre_of hF hW hsz ((.ref a :: As).map (cv g))⟩ rfl (by rw [List.length_map]; exact hn) hL.1 (by simp [cv]) (stW_spec (aX_cat (F_X hF)) hst) hdg hr.2
  refine va_callv (hrun.mono (fun s0 oc t e1 hq => rQ_0 hk e1 hq)) hW.2.1 (fun q _ z => z) (fun q z => z) (fun u t H1 locs1 q1 q2 q3 q4 q5 q6 q7 => ?_)
  subst q1
  exact q3.1 g p e s m args below meth cd t.heap locs1 ls hF ⟨q4, q7, by have := q3.2; have := hW.2.2; show s.heap.size + (c.1 + (M_R μ2).cells) = _; omega⟩ hL
end VR
end
section
theorem Met_mono {l : Launch} {y : MethodName} {ws : List Cond} {rm : Room} {Pc : Array Value → State → Prop} {Qc Qd : Array Value → State → Outcome → State → Prop} {mc ms : Nat} {free : Addr → Prop} (h : Met l y ws rm Pc Qc mc ms free) (hq : ∀ a s o t, Qc a s o t → Qd a s o t) : Met l y ws rm Pc Qd mc ms free := by
  intro p e h1 h2 h3 s m args below h4 h5 h6 h7
  obtain ⟨n, o, a1, a2, a3, a4, a5⟩ := h p e h1 h2 h3 s m args below h4 h5 h6 h7
  exact ⟨n, o, a1, a2, a3, hq _ _ _ _ a4, a5⟩
theorem rQ_mono {μ : aM} {K K2 : Value → aH → Prop} {g : aG} {a : Array Value} {s t : State} {oc : Outcome} (hk : ∀ r h, K r h → K2 r h) (h : rQ μ K g a s oc t) : rQ μ K2 g a s oc t := by
  unfold rQ at h ⊢
  split at h
  · obtain ⟨⟨u, h1, h2, h3⟩, h4⟩ := h
    exact ⟨⟨u, h1, ⟨hk _ _ h2.1, h2.2⟩, h3⟩, h4⟩
  · obtain ⟨⟨r, u, h1, h2, h3⟩, h4⟩ := h
    exact ⟨⟨r, u, h1, ⟨hk _ _ h2.1, h2.2⟩, h3⟩, h4⟩
  · obtain ⟨⟨r, u, h1, h2, h3⟩, h4⟩ := h
    exact ⟨⟨r, u, h1, ⟨hk _ _ h2.1, h2.2⟩, h3⟩, h4⟩
theorem Call_mono {E : aE} {μ : aM} {avs : List Value} {h : aH} {K K2 : Value → aH → Prop} (c : Call E μ avs h K) (hk : ∀ r h, K r h → K2 r h) : Call E μ avs h K2 := fun g => Met_mono (c g) (fun _ _ _ _ q => rQ_mono hk q)
/-- the locals at a method's entry -/
def aEnt : List Value → List Value
  | [] => []
  | v :: t => if v.category = 2 then v :: .retAddr 0 :: aEnt t else v :: aEnt t
theorem aEnt_len {g : aG} (hc : ∀ j, (g.2.2.2 j).category = 1) : ∀ vs : List Value, (lg_sl (vs.map (cv g))).length = (aEnt vs).length
  | [] => rfl
  | v :: t => by
    have ih := aEnt_len hc t
    simp only [lg_sl, List.map_cons, List.flatMap_cons, List.length_append, aEnt, cv_cat hc] at ih ⊢
    by_cases h : v.category = 2
    · simp only [h, if_true, List.length_cons, List.length_nil, ih]; omega
    · simp only [h, if_false, List.length_cons, List.length_nil, ih]; omega
theorem aEnt_at {g : aG} (hc : ∀ j, (g.2.2.2 j).category = 1) : ∀ (vs : List Value) (i : Nat) (v : Value), (aEnt vs)[i]? = some v → isJ v = false → (lg_sl (vs.map (cv g)))[i]? = some (.val (cv g v))
  | [], i, v, h, _ => by simp [aEnt] at h
  | w :: t, i, v, h, hj => by
    have ih := aEnt_at hc t
    simp only [lg_sl, List.map_cons, List.flatMap_cons, aEnt, cv_cat hc] at ih h ⊢
    by_cases hw : w.category = 2
    · simp only [hw, if_true] at h ⊢
      match i, h with
      | 0, h => simp at h; subst h; rfl
      | 1, h => simp at h; subst h; cases hj
      | i + 2, h => simp at h; simpa using ih i v h hj
    · simp only [hw, if_false] at h ⊢
      match i, h with
      | 0, h => simp at h; subst h; rfl
      | i + 1, h => simp at h; simpa using ih i v h hj
theorem aL_entry {E : aE} {g : aG} {s : State} (hX : aX E g s) {avs L : List Value} {n : Nat} (hl : aEnt avs ++ List.replicate (n - (aEnt avs).length) (.retAddr 0) = L) (hn : Nat.ble (aEnt avs).length n = true) : aL g L ((lg_sl (avs.map (cv g)) ++ List.replicate (n - (lg_sl (avs.map (cv g))).length) Slot.unset).toArray) n := by
  have hc := aX_cat hX
  have hn := Nat.le_of_ble_eq_true hn
  obtain ⟨h1, h2, -⟩ := lv_entry (avs.map (cv g)) (n := n) (by rw [aEnt_len hc]; exact hn)
  refine ⟨h1, h2, fun i v hv hj => ?_⟩
  subst hl
  rw [List.getElem?_toArray]
  by_cases hi : i < (aEnt avs).length
  · rw [List.getElem?_append_left hi] at hv
    rw [List.getElem?_append_left (by rw [aEnt_len hc]; exact hi)]
    exact aEnt_at hc avs i v hv hj
  · rw [List.getElem?_append_right (by omega), List.getElem?_replicate] at hv
    split at hv
    · cases hv; cases hj
    · cases hv
/-- a contract out of a walk from the entry -/
theorem Call_of {E : aE} {μ : aM} {avs L : List Value} {h : aH} {K : Value → aH → Prop} (hy : plainName (M_y μ).cls = true) (hl : aEnt avs ++ List.replicate (M_L μ - (aEnt avs).length) (.retAddr 0) = L) (hn : Nat.ble (aEnt avs).length (M_L μ) = true) (k : V E μ K 0 L [] h (0, 0)) : Call E μ avs h K := by
  intro g
  refine Met.ofW (cc := M_c μ) (maxL := M_L μ) (ret := M_r μ) hy rfl ?_
  intro p e s m args below meth c s₁ B hml hv
  obtain ⟨rfl, hP, hK, hsz, hX⟩ := hv
  rw [lg_entry_eq]
  have hts := atoms_spec (ws := Cond.code (M_y μ) (M_c μ) (M_L μ) (M_r μ) :: gtb) B.pre
  exact k g p e s m _ below meth c s.heap [] _ ⟨B.exec, B.bytes, hml, B.returns, B.notSynchronized, (name_of_methodNamed B.named B.method).1, findClass_of_methodNamed B.named, fun w hw => hts w (List.mem_cons_of_mem _ hw), hK, by omega, hX⟩ ⟨hP, va_S.rf, by simpa using hsz⟩ (aL_entry hX hl hn)
section VR
variable {E : aE} {μ : aM} {K : Value → aH → Prop} {pc npc tgt : Nat} {L : List Value} {st : List Value} {h : aH} {c : Nat × Nat}
theorem V_iret {v : Int32} (hd : decode (M_c μ) pc = .ok (.ireturn, 1)) (hr : ∃ ty, M_r μ = some ty ∧ narrow ty (.int v) = .int v) (hk : M_k μ = 1) (hc : c = ((M_R μ).cells, (M_R μ).slots)) (k : K (.int v) h) : V E μ K pc L [.int v] h c := by
  subst hc
  obtain ⟨ty, hr1, hr2⟩ := hr
  intro g p e s m args below meth cd H locs ls hF hW hL
  refine W.zret hF.1 hF.2.1 (hF.2.2.2.1.trans hr1) hr2 (fun t ht hw => ?_) (fun q hq => hW.2.1.2.2 q hq) hd hF.2.2.2.2.1
  unfold rQ
  rw [hk]
  exact ⟨⟨v, h, rfl, ⟨k, hW.2.2⟩, by rw [← ht] at hW; exact hW.1⟩, hW.2.1.F ht⟩
theorem V_lret {v : Int64} (hd : decode (M_c μ) pc = .ok (.lreturn, 1)) (hr : M_r μ = some .long) (hk : M_k μ = 2) (hc : c = ((M_R μ).cells, (M_R μ).slots)) (k : K (.long v) h) : V E μ K pc L [.long v] h c := by
  subst hc
  intro g p e s m args below meth cd H locs ls hF hW hL
  refine W.lret hF.1 hF.2.1 (hF.2.2.2.1.trans hr) (fun t ht hw => ?_) (fun q hq => hW.2.1.2.2 q hq) hd hF.2.2.2.2.1
  unfold rQ
  rw [hk]
  exact ⟨⟨v, h, rfl, ⟨k, hW.2.2⟩, by rw [← ht] at hW; exact hW.1⟩, hW.2.1.F ht⟩
theorem V_vret (hd : decode (M_c μ) pc = .ok (.return_, 1)) (hr : M_r μ = none) (hk : M_k μ = 0) (hc : c = ((M_R μ).cells, (M_R μ).slots)) (k : K .null h) : V E μ K pc L [] h c := by
  subst hc
  intro g p e s m args below meth cd H locs ls hF hW hL
  refine W.vret hF.1 hF.2.1 (hF.2.2.2.1.trans hr) (fun t ht hw => ?_) (fun q hq => hW.2.1.2.2 q hq) hd hF.2.2.2.2.1
  unfold rQ
  rw [hk]
  exact ⟨⟨h, rfl, ⟨k, hW.2.2⟩, by rw [← ht] at hW; exact hW.1⟩, hW.2.1.F ht⟩
/-- fewer locals known -/
def lsub : List Value → List Value → Bool
  | [], _ => true
  | v :: t, [] => isJ v && lsub t []
  | v :: t, w :: u => (isJ v || (v == w)) && lsub t u
theorem V_wk {L2 : List Value} (hs : ∀ (i : Nat) (v : Value), L2[i]? = some v → isJ v = false → L[i]? = some v) (k : V E μ K pc L2 st h c) : V E μ K pc L st h c := by
  intro g p e s m args below meth cd H locs ls hF hW hL
  exact k g p e s m args below meth cd H locs ls hF hW ⟨hL.1, hL.2.1, fun i v h1 h2 => hL.2.2 i v (hs i v h1 h2) h2⟩
theorem wk_nil {L : List Value} : ∀ (i : Nat) (v : Value), ([] : List Value)[i]? = some v → isJ v = false → L[i]? = some v := fun i v h => by simp at h
theorem wk_eq {v : Value} {L2 L : List Value} (h : ∀ (i : Nat) (v : Value), L2[i]? = some v → isJ v = false → L[i]? = some v) : ∀ (i : Nat) (w : Value), (v :: L2)[i]? = some w → isJ w = false → (v :: L)[i]? = some w := fun i w h1 h2 => by
  cases i with
  | zero => simpa using h1
  | succ i => simpa using h i w (by simpa using h1) h2
theorem wk_j {n : Nat} {v : Value} {L2 L : List Value} (h : ∀ (i : Nat) (v : Value), L2[i]? = some v → isJ v = false → L[i]? = some v) : ∀ (i : Nat) (w : Value), (.retAddr n :: L2)[i]? = some w → isJ w = false → (v :: L)[i]? = some w := fun i w h1 h2 => by
  cases i with
  | zero => simp at h1; subst h1; cases h2
  | succ i => simpa using h i w (by simpa using h1) h2
/-- Object's constructor -/
def oiok (R : Room) (st : List Value) : Bool := Nat.ble 1 R.frames && Nat.ble ((st.map fun v => v.category).sum + 12) R.locals
theorem w_oI : Cond.instanceMethod Lib.objectInit ∈ gtb := g_mem 98 (by decide +kernel) rfl
theorem w_oC : Cond.code Lib.objectInit ⟨#[0xb1]⟩ 1 none ∈ gtb := g_mem 99 (by decide +kernel) rfl
theorem V_oinit {a idx : Nat} (hd : Dc (M_c μ) pc (.invokespecial idx) 3 npc) (hl : Cond.methodLink (M_y μ).cls idx Lib.objectInit ∈ gtb) (hr : oiok (M_R μ) st = true) (k : V E μ K npc L st h c) : V E μ K pc L (.ref a :: st) h c := by
  obtain ⟨hdg, rfl⟩ := hd
  intro g p e s m args below meth cd H locs ls hF hW hL
  simp only [oiok, Bool.and_eq_true, Nat.ble_eq] at hr
  refine W.objInit (a := g.2.2.1 + a) (rest := st.map (cv g)) hF.1 hF.2.1 (F_o hF) (F_w hF _ hl) (F_w hF _ w_oI) (F_w hF _ w_oC) rfl (hL.1.trans hF.2.2.1.symm) (by simp [cv]) hdg hr.1 ?_ (k g p e s m args below meth cd H locs ls hF hW hL)
  rw [map_cat (aX_cat (F_X hF))]
  simpa using hr.2
theorem new_addr {g : aG} {h : aH} {H H1 : Heap} {s : State} {locs : List Loc} {c : Nat × Nat} {q : Nat} {e : va_E} (hW : aW g h H s locs c) (hz : H1.size ≤ s.heap.size + (c.1 + 1)) (hP : va_P g.1 CLS (cw g h ++ [(q, e)]) H1) (hD : va_D (aA g) (cw g h ++ [(q, e)])) : q = g.2.2.1 + h.1.length := by
  have hl : (cw g h).length = h.1.length := by simp [cw]
  have h0 : (cw g h ++ [(q, e)])[h.1.length]? = some (q, e) := by rw [List.getElem?_append_right (by omega), hl, Nat.sub_self]; rfl
  have h1 : g.2.2.1 ≤ q := hD.2 _ _ h0
  have h2 : q < H1.size := (hP _ _ h0).lt
  have h3 := hW.2.2
  rcases Nat.lt_or_ge q (g.2.2.1 + h.1.length) with h4 | h4
  · have hx : h.1[q - g.2.2.1]? = some (h.1[q - g.2.2.1]'(by omega)) := List.getElem?_eq_getElem _
    have h5 := cw_at (g := g) hx
    have h6 : (cw g h ++ [(q, e)])[q - g.2.2.1]? = some (g.2.2.1 + (q - g.2.2.1), ccell g h (q - g.2.2.1) (h.1[q - g.2.2.1]'(by omega))) := by
      rw [List.getElem?_append_left (by omega)]; exact h5
    have := hD.1 _ _ _ _ h6 h0 (by simp only; omega)
    omega
  · omega
/-- a class's fields at their birth -/
def bfs (ci n : Nat) : List Nat := (List.range n).map (fun j => match tyOf ci j with
  | .long => 1
  | .int => 0
  | .boolean => 0
  | _ => 2)
def bok (ci n : Nat) : Prop := ∀ j, j < n → ∀ (g : aG) (h : aH) (k : Nat), h.2.1 k j = 0 → h.2.2 k j = 0 → defaultValue (tyOf ci j) = vp_V (cfs g h k (bfs ci n)) j
theorem V_new {idx ci n : Nat} {C : String} {T : u_T} (hd : Dc (M_c μ) pc (.new idx) 3 npc) (hc : CLS[ci]? = some (C, T, n)) (hl : Cond.classLink (M_y μ).cls idx C ∈ gtb) (hi : Cond.instantiable C n ∈ gtb) (hn : Cond.initialized C ∈ gtb) (hb : bok ci n) (hr : (Nat.ble (c.1 + 1) (M_R μ).cells && Nat.ble (c.2 + n) (M_R μ).slots) = true) (k : V E μ K npc L (.ref h.1.length :: st) (hN h (.inr (ci, bfs ci n))) (c.1 + 1, c.2 + n)) : V E μ K pc L st h c := by
  obtain ⟨hdg, rfl⟩ := hd
  simp only [Bool.and_eq_true, Nat.ble_eq] at hr
  intro g p e s m args below meth cd H locs ls hF hW hL
  refine va_new (cl := CLS) (tys := aT g) (D := g.1) (A := aA g) (fs := cfs g (hN h (.inr (ci, bfs ci n))) h.1.length (bfs ci n)) hF.1 hF.2.1 (F_w hF) (u_inG hc) (tyOf ci) (u_ty hc) (F_o hF) (F_w hF _ hl) (F_w hF _ hi) (F_w hF _ hn) (F_k hF) hW.1 (cw_D g h) hW.2.1 (fun q hq => Nat.le_trans (F_b hF) hq) hc (fun j hj => hb j hj g _ _ (by simp [hN]) (by simp [hN])) hr.1 hr.2 hdg (fun q H1 q1 q2 q3 => ?_)
  refine W_size (fun hz => ?_)
  have hq := new_addr (locs := locs) hW hz q1 q2
  subst hq
  rw [cw_new (c := .inr (ci, bfs ci n)) (e := .inr (ci, cfs g (hN h (.inr (ci, bfs ci n))) h.1.length (bfs ci n))) rfl] at q1
  exact k g p e s m args below meth cd H1 locs ls hF ⟨q1, q3, by have := hW.2.2; simp only [hN, List.length_append, List.length_cons, List.length_nil]; omega⟩ hL
theorem arr_id {U : State} {a b : ClassId} {ty : FieldType} (ha : va_RA U a ty) (hb : va_RA U b ty) : a = b := by
  cases ty with
  | object C =>
    obtain ⟨_, _, -, -, -, h1⟩ := ha
    obtain ⟨_, _, -, -, -, h2⟩ := hb
    rw [h1] at h2
    exact Option.some.inj h2
  | _ =>
    have h1 : U.vm.findClass _ = some a := ha
    have h2 : U.vm.findClass _ = some b := hb
    rw [h1] at h2
    exact Option.some.inj h2
theorem w_arr0 : Cond.arrayClass .int ∈ gtb := g_mem 206 (by decide +kernel) rfl
theorem V_newI {n : Int32} {N : Nat} (hd : Dc (M_c μ) pc (.newarray .int) 2 npc) (hn : ¬ n < 0) (hz : n.toNatClampNeg = N) (hb : N * componentBytes .int ≤ 536870912) (hr : (Nat.ble (c.1 + 1) (M_R μ).cells && Nat.ble (c.2 + N) (M_R μ).slots) = true) (k : V E μ K npc L (.ref h.1.length :: st) (hN h (.inl (0, N, []))) (c.1 + 1, c.2 + N)) : V E μ K pc L (.int n :: st) h c := by
  obtain ⟨hdg, rfl⟩ := hd
  simp only [Bool.and_eq_true, Nat.ble_eq] at hr
  intro g p e s m args below meth cd H locs ls hF hW hL
  refine va_newa (cl := CLS) (tys := aT g) (D := g.1) (A := aA g) (atype := .int) (ty := .int) (a0 := (N, .inl (fun _ => 0))) hF.1 hF.2.1 (F_w hF _ w_arr0) rfl (F_k hF) hW.1 (cw_D g h) hW.2.1 (fun q hq => Nat.le_trans (F_b hF) hq) (fun cA => rfl) hn hz hb hr.1 hr.2 hdg (fun q cA H1 q0 q1 q2 q3 => ?_)
  refine W_size (fun hz2 => ?_)
  have hq := new_addr (locs := locs) hW hz2 q1 q2
  subst hq
  have hid : cA = g.2.1 0 := arr_id (q0.2 6 (cA, .int) rfl).2 (q0.2 0 (g.2.1 0, .int) rfl).2
  subst hid
  rw [cw_new (c := .inl (0, N, [])) (by simp [ccell, hN]; try rfl)] at q1
  exact k g p e s m args below meth cd H1 locs ls hF ⟨q1, q3, by have := hW.2.2; simp only [hN, List.length_append, List.length_cons, List.length_nil]; omega⟩ hL
theorem w_arr1 : Cond.arrayClass .byte ∈ gtb := g_mem 130 (by decide +kernel) rfl
theorem V_newB {n : Int32} {N : Nat} (hd : Dc (M_c μ) pc (.newarray .byte) 2 npc) (hn : ¬ n < 0) (hz : n.toNatClampNeg = N) (hb : N * componentBytes .byte ≤ 536870912) (hr : (Nat.ble (c.1 + 1) (M_R μ).cells && Nat.ble (c.2 + N) (M_R μ).slots) = true) (k : V E μ K npc L (.ref h.1.length :: st) (hN h (.inl (1, N, []))) (c.1 + 1, c.2 + N)) : V E μ K pc L (.int n :: st) h c := by
  obtain ⟨hdg, rfl⟩ := hd
  simp only [Bool.and_eq_true, Nat.ble_eq] at hr
  intro g p e s m args below meth cd H locs ls hF hW hL
  refine va_newa (cl := CLS) (tys := aT g) (D := g.1) (A := aA g) (atype := .byte) (ty := .byte) (a0 := (N, .inl (fun _ => 0))) hF.1 hF.2.1 (F_w hF _ w_arr1) rfl (F_k hF) hW.1 (cw_D g h) hW.2.1 (fun q hq => Nat.le_trans (F_b hF) hq) (fun cA => rfl) hn hz hb hr.1 hr.2 hdg (fun q cA H1 q0 q1 q2 q3 => ?_)
  refine W_size (fun hz2 => ?_)
  have hq := new_addr (locs := locs) hW hz2 q1 q2
  subst hq
  have hid : cA = g.2.1 1 := arr_id (q0.2 6 (cA, .byte) rfl).2 (q0.2 1 (g.2.1 1, .byte) rfl).2
  subst hid
  rw [cw_new (c := .inl (1, N, [])) (by simp [ccell, hN]; try rfl)] at q1
  exact k g p e s m args below meth cd H1 locs ls hF ⟨q1, q3, by have := hW.2.2; simp only [hN, List.length_append, List.length_cons, List.length_nil]; omega⟩ hL
theorem w_arr2 : Cond.arrayClass .boolean ∈ gtb := g_mem 1205 (by decide +kernel) rfl
theorem V_newZ {n : Int32} {N : Nat} (hd : Dc (M_c μ) pc (.newarray .boolean) 2 npc) (hn : ¬ n < 0) (hz : n.toNatClampNeg = N) (hb : N * componentBytes .boolean ≤ 536870912) (hr : (Nat.ble (c.1 + 1) (M_R μ).cells && Nat.ble (c.2 + N) (M_R μ).slots) = true) (k : V E μ K npc L (.ref h.1.length :: st) (hN h (.inl (2, N, []))) (c.1 + 1, c.2 + N)) : V E μ K pc L (.int n :: st) h c := by
  obtain ⟨hdg, rfl⟩ := hd
  simp only [Bool.and_eq_true, Nat.ble_eq] at hr
  intro g p e s m args below meth cd H locs ls hF hW hL
  refine va_newa (cl := CLS) (tys := aT g) (D := g.1) (A := aA g) (atype := .boolean) (ty := .boolean) (a0 := (N, .inl (fun _ => 0))) hF.1 hF.2.1 (F_w hF _ w_arr2) rfl (F_k hF) hW.1 (cw_D g h) hW.2.1 (fun q hq => Nat.le_trans (F_b hF) hq) (fun cA => rfl) hn hz hb hr.1 hr.2 hdg (fun q cA H1 q0 q1 q2 q3 => ?_)
  refine W_size (fun hz2 => ?_)
  have hq := new_addr (locs := locs) hW hz2 q1 q2
  subst hq
  have hid : cA = g.2.1 2 := arr_id (q0.2 6 (cA, .boolean) rfl).2 (q0.2 2 (g.2.1 2, .boolean) rfl).2
  subst hid
  rw [cw_new (c := .inl (2, N, [])) (by simp [ccell, hN]; try rfl)] at q1
  exact k g p e s m args below meth cd H1 locs ls hF ⟨q1, q3, by have := hW.2.2; simp only [hN, List.length_append, List.length_cons, List.length_nil]; omega⟩ hL
theorem w_arr3 : Cond.arrayClass .long ∈ gtb := g_mem 421 (by decide +kernel) rfl
theorem V_newJ {n : Int32} {N : Nat} (hd : Dc (M_c μ) pc (.newarray .long) 2 npc) (hn : ¬ n < 0) (hz : n.toNatClampNeg = N) (hb : N * componentBytes .long ≤ 536870912) (hr : (Nat.ble (c.1 + 1) (M_R μ).cells && Nat.ble (c.2 + N) (M_R μ).slots) = true) (k : V E μ K npc L (.ref h.1.length :: st) (hN h (.inl (3, N, []))) (c.1 + 1, c.2 + N)) : V E μ K pc L (.int n :: st) h c := by
  obtain ⟨hdg, rfl⟩ := hd
  simp only [Bool.and_eq_true, Nat.ble_eq] at hr
  intro g p e s m args below meth cd H locs ls hF hW hL
  refine va_newa (cl := CLS) (tys := aT g) (D := g.1) (A := aA g) (atype := .long) (ty := .long) (a0 := (N, .inr (.inl (fun _ => 0)))) hF.1 hF.2.1 (F_w hF _ w_arr3) rfl (F_k hF) hW.1 (cw_D g h) hW.2.1 (fun q hq => Nat.le_trans (F_b hF) hq) (fun cA => rfl) hn hz hb hr.1 hr.2 hdg (fun q cA H1 q0 q1 q2 q3 => ?_)
  refine W_size (fun hz2 => ?_)
  have hq := new_addr (locs := locs) hW hz2 q1 q2
  subst hq
  have hid : cA = g.2.1 3 := arr_id (q0.2 6 (cA, .long) rfl).2 (q0.2 3 (g.2.1 3, .long) rfl).2
  subst hid
  rw [cw_new (c := .inl (3, N, [])) (by simp [ccell, hN]; try rfl)] at q1
  exact k g p e s m args below meth cd H1 locs ls hF ⟨q1, q3, by have := hW.2.2; simp only [hN, List.length_append, List.length_cons, List.length_nil]; omega⟩ hL
theorem V_newR4 {n : Int32} {N idx : Nat} (hd : Dc (M_c μ) pc (.anewarray idx) 3 npc) (hl : Cond.classLink (M_y μ).cls idx "LatePrices$Ledger" ∈ gtb) (hn : ¬ n < 0) (hz : n.toNatClampNeg = N) (hb : N * 4 ≤ 536870912) (hr : (Nat.ble (c.1 + 1) (M_R μ).cells && Nat.ble (c.2 + N) (M_R μ).slots) = true) (k : V E μ K npc L (.ref h.1.length :: st) (hN h (.inl (4, N, List.replicate N 2))) (c.1 + 1, c.2 + N)) : V E μ K pc L (.int n :: st) h c := by
  obtain ⟨hdg, rfl⟩ := hd
  simp only [Bool.and_eq_true, Nat.ble_eq] at hr
  intro g p e s m args below meth cd H locs ls hF hW hL
  obtain ⟨-, -, -, -, hl4, hl5, -⟩ := F_X hF
  refine va_newq (cl := CLS) (tys := aT g) (D := g.1) (A := aA g) (C := "LatePrices$Ledger") hF.1 hF.2.1 (F_o hF) (F_w hF _ hl) hl4 (F_k hF) hW.1 (cw_D g h) hW.2.1 (fun q hq => Nat.le_trans (F_b hF) hq) hn hz hb hr.1 hr.2 hdg (fun q cA H1 q0 q1 q2 q3 => ?_)
  refine W_size (fun hz2 => ?_)
  have hq := new_addr (locs := locs) hW hz2 q1 q2
  subst hq
  have hid : cA = g.2.1 4 := arr_id (q0.2 6 (cA, .object "LatePrices$Ledger") rfl).2 (q0.2 4 (g.2.1 4, .object "LatePrices$Ledger") rfl).2
  subst hid
  have hcr : crf g (List.replicate N 2) = fun _ => none := by
    funext i
    simp only [crf, List.getD_eq_getElem?_getD, List.getElem?_replicate]
    split <;> rfl
  rw [cw_new (c := .inl (4, N, List.replicate N 2)) (by simp [ccell, hcr])] at q1
  exact k g p e s m args below meth cd H1 locs ls hF ⟨q1, q3, by have := hW.2.2; simp only [hN, List.length_append, List.length_cons, List.length_nil]; omega⟩ hL
theorem V_newR5 {n : Int32} {N idx : Nat} (hd : Dc (M_c μ) pc (.anewarray idx) 3 npc) (hl : Cond.classLink (M_y μ).cls idx "LatePrices$Sheet" ∈ gtb) (hn : ¬ n < 0) (hz : n.toNatClampNeg = N) (hb : N * 4 ≤ 536870912) (hr : (Nat.ble (c.1 + 1) (M_R μ).cells && Nat.ble (c.2 + N) (M_R μ).slots) = true) (k : V E μ K npc L (.ref h.1.length :: st) (hN h (.inl (5, N, List.replicate N 2))) (c.1 + 1, c.2 + N)) : V E μ K pc L (.int n :: st) h c := by
  obtain ⟨hdg, rfl⟩ := hd
  simp only [Bool.and_eq_true, Nat.ble_eq] at hr
  intro g p e s m args below meth cd H locs ls hF hW hL
  obtain ⟨-, -, -, -, hl4, hl5, -⟩ := F_X hF
  refine va_newq (cl := CLS) (tys := aT g) (D := g.1) (A := aA g) (C := "LatePrices$Sheet") hF.1 hF.2.1 (F_o hF) (F_w hF _ hl) hl5 (F_k hF) hW.1 (cw_D g h) hW.2.1 (fun q hq => Nat.le_trans (F_b hF) hq) hn hz hb hr.1 hr.2 hdg (fun q cA H1 q0 q1 q2 q3 => ?_)
  refine W_size (fun hz2 => ?_)
  have hq := new_addr (locs := locs) hW hz2 q1 q2
  subst hq
  have hid : cA = g.2.1 5 := arr_id (q0.2 6 (cA, .object "LatePrices$Sheet") rfl).2 (q0.2 5 (g.2.1 5, .object "LatePrices$Sheet") rfl).2
  subst hid
  have hcr : crf g (List.replicate N 2) = fun _ => none := by
    funext i
    simp only [crf, List.getD_eq_getElem?_getD, List.getElem?_replicate]
    split <;> rfl
  rw [cw_new (c := .inl (5, N, List.replicate N 2)) (by simp [ccell, hcr])] at q1
  exact k g p e s m args below meth cd H1 locs ls hF ⟨q1, q3, by have := hW.2.2; simp only [hN, List.length_append, List.length_cons, List.length_nil]; omega⟩ hL
theorem V_callN0 {μ2 : aM} {a : Nat} (As : List Value) (hd : Dc (M_c μ) pc (.invokespecial 9) 3 npc) (hcl : (M_y μ).cls = "LatePrices") (hy2 : M_y μ2 = ⟨"LatePrices$Tape", "<init>", "()V"⟩) (ok : okM μ2) (hin : Cond.instanceMethod (M_y μ2) ∈ gtb) (hret : M_r μ2 = none) (hk : M_k μ2 = 0) (hr : rmok (M_R μ) μ2 c = true) (hn : As.length = M_n μ2) (hst : stW st = true) (k : Call E μ2 (.ref a :: As) h (fun r h2 => V E μ K npc L st h2 (c.1 + (M_R μ2).cells, c.2 + (M_R μ2).slots))) : V E μ K pc L (As.reverse ++ .ref a :: st) h c := by
  obtain ⟨hdg, rfl⟩ := hd
  have hr := rmok_spec hr
  intro g p e s m args below meth cd H locs ls hF hW hL
  refine W_size (fun hz => ?_)
  have hsz := aW_size hW hz (F_b hF)
  have hM := k g
  obtain ⟨-, -, -, -, -, -, hn0, hn1, -⟩ := F_X hF
  have hNw : va_Nw (.methodLinkNest (M_y μ).cls 9 (M_y μ2) "LatePrices") s := by rw [hcl, hy2]; exact hn0
  have hrun := va_runIN (S := ⟨hF.1, hF.2.1, hF.2.2.1, F_o hF, F_w hF⟩) (b := g.2.2.1 + a) (As := (As.map (cv g))) (rest := st.map (cv g)) (g := F0 m pc ls ((As.reverse ++ .ref a :: st).map (cv g))) (locs := locs) (below := below) (meth := meth) (e := e) (R := M_R μ) (cells := c.1) (slots := c.2) (H := H) hM
    (⟨va_cnB (M_n μ2) (F_w hF) (g_goodIn ok.2.1) (by rw [hret]) rfl rfl hNw (F_w hF _ ok.2.2.1) ok.2.2.2 hr.1, by rw [hy2], F_w hF _ hin⟩)
    ⟨aPre_blind, aPre_of hF hW hsz ((.ref a :: As).map (cv g))⟩ rfl (by rw [List.length_map]; exact hn) hL.1 (by simp [cv]) (stW_spec (aX_cat (F_X hF)) hst) hdg hr.2
  refine va_callv (hrun.mono (fun s0 oc t e1 hq => rQ_0 hk e1 hq)) hW.2.1 (fun q _ z => z) (fun q z => z) (fun u t H1 locs1 q1 q2 q3 q4 q5 q6 q7 => ?_)
  subst q1
  exact q3.1 g p e s m args below meth cd t.heap locs1 ls hF ⟨q4, q7, by have := q3.2; have := hW.2.2; show s.heap.size + (c.1 + (M_R μ2).cells) = _; omega⟩ hL
theorem V_callN1 {μ2 : aM} {a : Nat} (As : List Value) (hd : Dc (M_c μ) pc (.invokespecial 95) 3 npc) (hcl : (M_y μ).cls = "LatePrices") (hy2 : M_y μ2 = ⟨"LatePrices$Sheet", "<init>", "()V"⟩) (ok : okM μ2) (hin : Cond.instanceMethod (M_y μ2) ∈ gtb) (hret : M_r μ2 = none) (hk : M_k μ2 = 0) (hr : rmok (M_R μ) μ2 c = true) (hn : As.length = M_n μ2) (hst : stW st = true) (k : Call E μ2 (.ref a :: As) h (fun r h2 => V E μ K npc L st h2 (c.1 + (M_R μ2).cells, c.2 + (M_R μ2).slots))) : V E μ K pc L (As.reverse ++ .ref a :: st) h c := by
  obtain ⟨hdg, rfl⟩ := hd
  have hr := rmok_spec hr
  intro g p e s m args below meth cd H locs ls hF hW hL
  refine W_size (fun hz => ?_)
  have hsz := aW_size hW hz (F_b hF)
  have hM := k g
  obtain ⟨-, -, -, -, -, -, hn0, hn1, -⟩ := F_X hF
  have hNw : va_Nw (.methodLinkNest (M_y μ).cls 95 (M_y μ2) "LatePrices") s := by rw [hcl, hy2]; exact hn1
  have hrun := va_runIN (S := ⟨hF.1, hF.2.1, hF.2.2.1, F_o hF, F_w hF⟩) (b := g.2.2.1 + a) (As := (As.map (cv g))) (rest := st.map (cv g)) (g := F0 m pc ls ((As.reverse ++ .ref a :: st).map (cv g))) (locs := locs) (below := below) (meth := meth) (e := e) (R := M_R μ) (cells := c.1) (slots := c.2) (H := H) hM
    (⟨va_cnB (M_n μ2) (F_w hF) (g_goodIn ok.2.1) (by rw [hret]) rfl rfl hNw (F_w hF _ ok.2.2.1) ok.2.2.2 hr.1, by rw [hy2], F_w hF _ hin⟩)
    ⟨aPre_blind, aPre_of hF hW hsz ((.ref a :: As).map (cv g))⟩ rfl (by rw [List.length_map]; exact hn) hL.1 (by simp [cv]) (stW_spec (aX_cat (F_X hF)) hst) hdg hr.2
  refine va_callv (hrun.mono (fun s0 oc t e1 hq => rQ_0 hk e1 hq)) hW.2.1 (fun q _ z => z) (fun q z => z) (fun u t H1 locs1 q1 q2 q3 q4 q5 q6 q7 => ?_)
  subst q1
  exact q3.1 g p e s m args below meth cd t.heap locs1 ls hF ⟨q4, q7, by have := q3.2; have := hW.2.2; show s.heap.size + (c.1 + (M_R μ2).cells) = _; omega⟩ hL
theorem V_ldcS {j : UInt32} {idx : Nat} (hd : Dc (M_c μ) pc (.ldc idx) 2 npc) (hcl : (M_y μ).cls = "LatePrices$Reader") (hj : j.toNat < 9) (hi : sIdx.getD j.toNat 0 = idx) (k : V E μ K npc L (.float j :: st) h c) : V E μ K pc L st h c := by
  obtain ⟨hdg, rfl⟩ := hd
  intro g p e s m args below meth cd H locs ls hF hW hL
  obtain ⟨⟨adK, adV, h1, h2, h3⟩, -⟩ := F_X hF
  have h4 := h3 _ hj
  rw [hi] at h4
  refine va_ldcS hF.1 hF.2.1 (by rw [← hcl]; exact F_o hF) h4 hdg ?_
  have h5 := k g p e s m args below meth cd H locs ls hF hW hL
  rw [List.map_cons, show cv g (.float j) = .ref (adK j.toNat) from (h1 _ hj).1] at h5
  exact h5
theorem sp16 {j : UInt32} (hj : j.toNat < 9) : (j + 16).toNat = 16 + j.toNat := by
  rw [UInt32.toNat_add]
  show (j.toNat + 16) % 2 ^ 32 = _
  omega
theorem V_getSv {j : UInt32} {idx : Nat} (hd : Dc (M_c μ) pc (.getfield idx) 3 npc) (hf : Cond.fieldLink (M_y μ).cls idx "java/lang/String" "value" "[B" ∈ gtb) (hj : j.toNat < 9) (k : V E μ K npc L (.float (j + 16) :: st) h c) : V E μ K pc L (.float j :: st) h c := by
  obtain ⟨hdg, rfl⟩ := hd
  intro g p e s m args below meth cd H locs ls hF hW hL
  obtain ⟨⟨adK, adV, h1, h2, h3⟩, -⟩ := F_X hF
  have h5 := k g p e s m args below meth cd H locs ls hF hW hL
  rw [List.map_cons, show cv g (.float (j + 16)) = .ref (adV j.toNat) from by rw [← (h1 _ hj).2, ← sp16 hj]; rfl] at h5
  rw [List.map_cons, show cv g (.float j) = .ref (adK j.toNat) from (h1 _ hj).1]
  exact vk_getf hF.1 hF.2.1 (h2.1 _ hj).2.2.1 hW.2.1 (F_o hF) (F_w hF _ hf) (fun _ z => z) hdg h5
theorem V_getSc {j : UInt32} {idx : Nat} (hd : Dc (M_c μ) pc (.getfield idx) 3 npc) (hf : Cond.fieldLink (M_y μ).cls idx "java/lang/String" "coder" "B" ∈ gtb) (hj : j.toNat < 9) (k : V E μ K npc L (.int 0 :: st) h c) : V E μ K pc L (.float j :: st) h c := by
  obtain ⟨hdg, rfl⟩ := hd
  intro g p e s m args below meth cd H locs ls hF hW hL
  obtain ⟨⟨adK, adV, h1, h2, h3⟩, -⟩ := F_X hF
  have h5 := k g p e s m args below meth cd H locs ls hF hW hL
  rw [List.map_cons, show cv g (.float j) = .ref (adK j.toNat) from (h1 _ hj).1]
  exact vk_getf hF.1 hF.2.1 (h2.1 _ hj).2.1 hW.2.1 (F_o hF) (F_w hF _ hf) (fun _ z => z) hdg h5
theorem V_lenS {j : UInt32} {v : Int32} (hd : Dc (M_c μ) pc .arraylength 1 npc) (hj : j.toNat < 9) (hv : Int32.ofNat (sLen.getD j.toNat 0) = v) (k : V E μ K npc L (.int v :: st) h c) : V E μ K pc L (.float (j + 16) :: st) h c := by
  obtain ⟨hdg, rfl⟩ := hd
  intro g p e s m args below meth cd H locs ls hF hW hL
  obtain ⟨⟨adK, adV, h1, h2, h3⟩, -⟩ := F_X hF
  have h5 := k g p e s m args below meth cd H locs ls hF hW hL
  rw [List.map_cons, show cv g (.float (j + 16)) = .ref (adV j.toNat) from by rw [← (h1 _ hj).2, ← sp16 hj]; rfl]
  exact va_tlen hF.1 hF.2.1 (h2.1 _ hj).2.2.2 hW.2.1 hv hdg h5
theorem V_baldS {j : UInt32} {i v : Int32} (hd : Dc (M_c μ) pc .baload 1 npc) (hj : j.toNat < 9) (hi : vp_in i (sLen.getD j.toNat 0)) (hv : (sByt.getD j.toNat []).getD i.toNatClampNeg 0 = v) (k : V E μ K npc L (.int v :: st) h c) : V E μ K pc L (.int i :: .float (j + 16) :: st) h c := by
  obtain ⟨hdg, rfl⟩ := hd
  intro g p e s m args below meth cd H locs ls hF hW hL
  obtain ⟨⟨adK, adV, h1, h2, h3⟩, -⟩ := F_X hF
  have h5 := k g p e s m args below meth cd H locs ls hF hW hL
  rw [List.map_cons, List.map_cons, show cv g (.float (j + 16)) = .ref (adV j.toNat) from by rw [← (h1 _ hj).2, ← sp16 hj]; rfl]
  exact va_tb hF.1 hF.2.1 (h2.1 _ hj).2.2.2 hW.2.1 hi (by rw [hv]; rfl) hdg h5
theorem V_getC {idx : Nat} (hd : Dc (M_c μ) pc (.getstatic idx) 3 npc) (hf : Cond.fieldLink (M_y μ).cls idx "java/lang/String" "COMPACT_STRINGS" "Z" ∈ gtb) (k : V E μ K npc L (.int 1 :: st) h c) : V E μ K pc L st h c := by
  obtain ⟨hdg, rfl⟩ := hd
  intro g p e s m args below meth cd H locs ls hF hW hL
  obtain ⟨-, hz, -⟩ := F_X hF
  exact va_gets hF.1 hF.2.1 hz hW.2.1 (F_o hF) (F_w hF _ hf) (fun _ z => z) hdg (k g p e s m args below meth cd H locs ls hF hW hL)
theorem V_getF {idx : Nat} (hd : Dc (M_c μ) pc (.getstatic idx) 3 npc) (hf : Cond.fieldLink (M_y μ).cls idx "jdk/internal/util/Preconditions" "SIOOBE_FORMATTER" "Ljava/util/function/BiFunction;" ∈ gtb) (k : V E μ K npc L (.float 33 :: st) h c) : V E μ K pc L st h c := by
  obtain ⟨hdg, rfl⟩ := hd
  intro g p e s m args below meth cd H locs ls hF hW hL
  obtain ⟨-, -, hz, -⟩ := F_X hF
  exact va_gets hF.1 hF.2.1 hz hW.2.1 (F_o hF) (F_w hF _ hf) (fun _ z => z) hdg (k g p e s m args below meth cd H locs ls hF hW hL)
theorem V_sld {i : Int32} (hd : Dc (M_c μ) pc .iaload 1 npc) (hi : vp_in i E.2.1) (k : V E μ K npc L (.int (E.2.2 i.toNatClampNeg) :: st) h c) : V E μ K pc L (.int i :: .float 32 :: st) h c := by
  obtain ⟨hdg, rfl⟩ := hd
  intro g p e s m args below meth cd H locs ls hF hW hL
  obtain ⟨-, -, -, ⟨b, h6, h7, h8⟩, -⟩ := F_X hF
  rw [List.map_cons, List.map_cons, show cv g (.float 32) = .ref b from h6]
  exact va_sld (A := aA g) hF.1 hF.2.1 h8 (by have := F_b hF; omega) (by show ¬ g.2.2.1 ≤ b; omega) hW.2.1 hi hdg (k g p e s m args below meth cd H locs ls hF hW hL)
theorem V_slen (hd : Dc (M_c μ) pc .arraylength 1 npc) (k : V E μ K npc L (.int (Int32.ofNat E.2.1) :: st) h c) : V E μ K pc L (.float 32 :: st) h c := by
  obtain ⟨hdg, rfl⟩ := hd
  intro g p e s m args below meth cd H locs ls hF hW hL
  obtain ⟨-, -, -, ⟨b, h6, h7, h8⟩, -⟩ := F_X hF
  rw [List.map_cons, show cv g (.float 32) = .ref b from h6]
  exact va_slen (A := aA g) hF.1 hF.2.1 h8 (by have := F_b hF; omega) (by show ¬ g.2.2.1 ≤ b; omega) hW.2.1 hdg (k g p e s m args below meth cd H locs ls hF hW hL)
theorem V_callVs {idx : Nat} {μ2 : aM} {j : UInt32} (As : List Value) (hd : Dc (M_c μ) pc (.invokevirtual idx) 3 npc) (ok : okV (M_y μ).cls idx μ2) (hcl : (M_y μ2).cls = "java/lang/String") (hj : j.toNat < 9) (hk : M_k μ2 = 1) (hr : rmok (M_R μ) μ2 c = true) (hn : As.length = M_n μ2) (hst : stW st = true) (k : Call E μ2 (.float j :: As) h (fun r h2 => V E μ K npc L (r :: st) h2 (c.1 + (M_R μ2).cells, c.2 + (M_R μ2).slots))) : V E μ K pc L (As.reverse ++ .float j :: st) h c := by
  obtain ⟨hdg, rfl⟩ := hd
  have hr := rmok_spec hr
  intro g p e s m args below meth cd H locs ls hF hW hL
  refine W_size (fun hz => ?_)
  have hsz := aW_size hW hz (F_b hF)
  have hM := k g
  obtain ⟨⟨adK, adV, h1, h2, h3⟩, -⟩ := F_X hF
  have hcj : cv g (.float j) = .ref (adK j.toNat) := (h1 _ hj).1
  have hrun := va_runV (S := ⟨hF.1, hF.2.1, hF.2.2.1, F_o hF, F_w hF⟩) (b := adK j.toNat) (C := (M_y μ2).cls) (As := (As.map (cv g))) (rest := st.map (cv g)) (g := F0 m pc ls ((As.reverse ++ .float j :: st).map (cv g))) (locs := locs) (below := below) (meth := meth) (e := e) (R := M_R μ) (cells := c.1) (slots := c.2) (H := H) hM
    (⟨callB_of (M_n μ2) (F_w hF) (g_goodIn ok.1.2.1) rfl rfl rfl (F_w hF _ ok.1.2.2.1) (F_w hF _ ok.2.1) ok.1.2.2.2 hr.1, F_w hF _ ok.2.2.1, F_w hF _ ok.2.2.2⟩)
    ⟨aPre_blind, by rw [hcl]; exact vk_recv h2 hj hW.2.1, by
      have := aPre_of hF hW hsz ((.float j :: As).map (cv g))
      rw [List.map_cons, hcj] at this ⊢
      exact this⟩ rfl (by rw [List.length_map]; exact hn) hL.1 (by simp [hcj]) (stW_spec (aX_cat (F_X hF)) hst) hdg hr.2
  refine va_calli (hrun.mono (fun s0 oc t e1 hq => rQ_1 hk e1 hq)) hW.2.1 (fun q _ z => z) (fun q z => z) (fun r u t H1 locs1 q1 q2 q3 q4 q5 q6 q7 => ?_)
  subst q1
  exact q3.1 g p e s m args below meth cd t.heap locs1 ls hF ⟨q4, q7, by have := q3.2; have := hW.2.2; show s.heap.size + (c.1 + (M_R μ2).cells) = _; omega⟩ hL
theorem V_popS {j : UInt32} (hd : Dc (M_c μ) pc .pop 1 npc) (k : V E μ K npc L st h c) : V E μ K pc L (.int j.toInt32 :: st) h c := V_popI hd k
theorem V_tabOut {dflt lo hi : Int} {offs : Array Int} {len : Nat} {x : Int32} (hd : decode (M_c μ) pc = .ok (.tableswitch dflt lo hi offs, len)) (ht : (pc : Int) + dflt = (tgt : Int)) (hx : x.toInt < lo ∨ hi < x.toInt) (k : V E μ K tgt L st h c) : V E μ K pc L (.int x :: st) h c := by
  intro g p e s m args below meth cd H locs ls hF hW hL
  exact lv_tableOut hF.1 hF.2.1 hd hx ht (k g p e s m args below meth cd H locs ls hF hW hL)
theorem V_tabIn {dflt lo hi off : Int} {offs : Array Int} {len : Nat} {x : Int32} (hd : decode (M_c μ) pc = .ok (.tableswitch dflt lo hi offs, len)) (h1 : ¬ x.toInt < lo) (h2 : ¬ hi < x.toInt) (ho : offs[(x.toInt - lo).toNat]? = some off) (ht : (pc : Int) + off = (tgt : Int)) (k : V E μ K tgt L st h c) : V E μ K pc L (.int x :: st) h c := by
  intro g p e s m args below meth cd H locs ls hF hW hL
  exact lv_tableIn hF.1 hF.2.1 hd h1 h2 ho ht (k g p e s m args below meth cd H locs ls hF hW hL)
theorem V_look {dflt off : Int} {ps : Array (Int × Int)} {len : Nat} {x : Int32} (hd : decode (M_c μ) pc = .ok (.lookupswitch dflt ps, len)) (hp : (ps.toList.zip (ps.toList.drop 1)).all (fun (a, next) => a.1 < next.1) = true) (ho : Op.lookupswitch.offset ps.toList dflt x.toInt = off) (ht : (pc : Int) + off = (tgt : Int)) (k : V E μ K tgt L st h c) : V E μ K pc L (.int x :: st) h c := by
  intro g p e s m args below meth cd H locs ls hF hW hL
  exact lv_lookup hF.1 hF.2.1 hd hp ho ht (k g p e s m args below meth cd H locs ls hF hW hL)
end VR
end
section
abbrev hI_ : Type := Nat → Nat → Int32
abbrev hJ_ : Type := Nat → Nat → Int64
def upI (I : hI_) (a i : Nat) (v : Int32) : hI_ := fun b => if b = a then upd (I a) i v else I b
def upJ (J : hJ_) (a i : Nat) (v : Int64) : hJ_ := fun b => if b = a then vp_updL (J a) i v else J b
def cpI (I : hI_) (a b sp dp n : Nat) : hI_ := fun q => if q = b then va_cpy (I a) (I b) sp dp n else I q
def cpJ (J : hJ_) (a b sp dp n : Nat) : hJ_ := fun q => if q = b then va_cpy (J a) (J b) sp dp n else J q
def flI (I : hI_) (a n : Nat) (v : Int32) : hI_ := fun q => if q = a then (fun i => if i < n then v else I a i) else I q
def flJ (J : hJ_) (a n : Nat) (v : Int64) : hJ_ := fun q => if q = a then (fun i => if i < n then v else J a i) else J q
def b2i (p : Prop) [Decidable p] : Int32 := if p then 1 else 0
def kI (S : List aC) (P : Int32 → hI_ → hJ_ → Prop) : Value → aH → Prop := fun r h => ∃ x I J, r = .int x ∧ h = (S, I, J) ∧ P x I J
def kJ (S : List aC) (P : Int64 → hI_ → hJ_ → Prop) : Value → aH → Prop := fun r h => ∃ x I J, r = .long x ∧ h = (S, I, J) ∧ P x I J
def kV (S : List aC) (P : hI_ → hJ_ → Prop) : Value → aH → Prop := fun _ h => ∃ I J, h = (S, I, J) ∧ P I J
def CallI (E : aE) (μ : aM) (avs : List Value) (S : List aC) (I : hI_) (J : hJ_) (P : Int32 → hI_ → hJ_ → Prop) : Prop := Call E μ avs (S, I, J) (kI S P)
def CallJ (E : aE) (μ : aM) (avs : List Value) (S : List aC) (I : hI_) (J : hJ_) (P : Int64 → hI_ → hJ_ → Prop) : Prop := Call E μ avs (S, I, J) (kJ S P)
def CallV (E : aE) (μ : aM) (avs : List Value) (S : List aC) (I : hI_) (J : hJ_) (P : hI_ → hJ_ → Prop) : Prop := Call E μ avs (S, I, J) (kV S P)
theorem CallI_mono {E : aE} {μ : aM} {avs : List Value} {S : List aC} {I : hI_} {J : hJ_} {P Q : Int32 → hI_ → hJ_ → Prop} (c : CallI E μ avs S I J P) (h : ∀ x I J, P x I J → Q x I J) : CallI E μ avs S I J Q := Call_mono c (fun r hh ⟨x, I, J, h1, h2, h3⟩ => ⟨x, I, J, h1, h2, h x I J h3⟩)
theorem CallJ_mono {E : aE} {μ : aM} {avs : List Value} {S : List aC} {I : hI_} {J : hJ_} {P Q : Int64 → hI_ → hJ_ → Prop} (c : CallJ E μ avs S I J P) (h : ∀ x I J, P x I J → Q x I J) : CallJ E μ avs S I J Q := Call_mono c (fun r hh ⟨x, I, J, h1, h2, h3⟩ => ⟨x, I, J, h1, h2, h x I J h3⟩)
theorem CallV_mono {E : aE} {μ : aM} {avs : List Value} {S : List aC} {I : hI_} {J : hJ_} {P Q : hI_ → hJ_ → Prop} (c : CallV E μ avs S I J P) (h : ∀ I J, P I J → Q I J) : CallV E μ avs S I J Q := Call_mono c (fun r hh ⟨I, J, h2, h3⟩ => ⟨I, J, h2, h I J h3⟩)
theorem b2i_0 {p : Prop} [Decidable p] : b2i p = 0 ↔ ¬ p := by unfold b2i; split <;> simp_all
theorem b2i_1 {p : Prop} [Decidable p] : b2i p = 1 ↔ p := by unfold b2i; split <;> simp_all
theorem b2i_z {p : Prop} [Decidable p] : b2i p = 0 ∨ b2i p = 1 := by unfold b2i; split <;> simp
theorem b2i_nar {p : Prop} [Decidable p] : narrow .boolean (.int (b2i p)) = .int (b2i p) := by unfold b2i; split <;> rfl
theorem z_nar {v : Int32} (h : v = 0 ∨ v = 1) : narrow .boolean (.int v) = .int v := by rcases h with rfl | rfl <;> rfl
theorem lgc_lt {x y : Int64} : lg_cmp x y < 0 ↔ x < y := by
  unfold lg_cmp; split
  · rename_i h; constructor
    · intro q; exact absurd q (by decide)
    · intro q; exact absurd q (fun z => by have := Int64.lt_iff_toInt_lt.mp h; have := Int64.lt_iff_toInt_lt.mp z; omega)
  · split
    · rename_i h1 h; subst h; constructor
      · intro q; exact absurd q (by decide)
      · intro q; have := Int64.lt_iff_toInt_lt.mp q; omega
    · rename_i h1 h2; constructor
      · intro _
        have h3 : ¬ y.toInt < x.toInt := fun z => h1 (Int64.lt_iff_toInt_lt.mpr z)
        have h4 : ¬ x.toInt = y.toInt := fun z => h2 (Int64.toInt_inj.mp z)
        exact Int64.lt_iff_toInt_lt.mpr (by omega)
      · intro _; decide
theorem lgc_eq {x y : Int64} : lg_cmp x y = 0 ↔ x = y := by
  unfold lg_cmp; split
  · rename_i h; constructor
    · intro q; exact absurd q (by decide)
    · intro q; subst q; have := Int64.lt_iff_toInt_lt.mp h; omega
  · split
    · rename_i h; exact ⟨fun _ => h, fun _ => rfl⟩
    · rename_i h; exact ⟨fun q => absurd q (by decide), fun q => absurd q h⟩
theorem lgc_gt {x y : Int64} : 0 < lg_cmp x y ↔ y < x := by
  unfold lg_cmp; split
  · rename_i h; exact ⟨fun _ => h, fun _ => by decide⟩
  · rename_i h; split
    · exact ⟨fun q => absurd q (by decide), fun q => absurd q h⟩
    · exact ⟨fun q => absurd q (by decide), fun q => absurd q h⟩
theorem lgc_ge {x y : Int64} : 0 ≤ lg_cmp x y ↔ y ≤ x := by
  rw [← Int32.not_lt, lgc_lt, Int64.not_lt]
theorem lgc_le {x y : Int64} : lg_cmp x y ≤ 0 ↔ x ≤ y := by
  rw [← Int32.not_lt, lgc_gt, Int64.not_lt]
section VR
variable {E : aE} {μ : aM} {K : Value → aH → Prop} {pc npc pc2 tgt : Nat} {L L2 : List Value} {st : List Value} {h : aH} {c : Nat × Nat} {S : List aC} {I : hI_} {J : hJ_}
theorem V_wslots {n : Nat} (hn : Nat.ble c.2 n = true) (k : V E μ K pc L st h (c.1, n)) : V E μ K pc L st h c := by
  intro g p e s m args below meth cd H locs ls hF hW hL
  exact W.widen (Nat.le_refl _) (Nat.le_of_ble_eq_true hn) (k g p e s m args below meth cd H locs ls hF hW hL)
theorem U_istore {i : Nat} {x : Int32} (hd : Dc (M_c μ) pc (.istore i) 2 npc) (hn : i < M_L μ) (hL : aset1 L i (.int x) = L2) (k : V E μ K npc L2 st h c) : V E μ K pc L (.int x :: st) h c := V_istore hd hn (by rw [hL]; exact k)
theorem U_istore_n {i : Fin 4} {x : Int32} (hd : Dc (M_c μ) pc (.istore_n i) 1 npc) (hn : i.1 < M_L μ) (hL : aset1 L i.1 (.int x) = L2) (k : V E μ K npc L2 st h c) : V E μ K pc L (.int x :: st) h c := V_istore_n hd hn (by rw [hL]; exact k)
theorem U_astore {i : Nat} {x : Nat} (hd : Dc (M_c μ) pc (.astore i) 2 npc) (hn : i < M_L μ) (hL : aset1 L i (.ref x) = L2) (k : V E μ K npc L2 st h c) : V E μ K pc L (.ref x :: st) h c := V_astore hd hn (by rw [hL]; exact k)
theorem U_astore_n {i : Fin 4} {x : Nat} (hd : Dc (M_c μ) pc (.astore_n i) 1 npc) (hn : i.1 < M_L μ) (hL : aset1 L i.1 (.ref x) = L2) (k : V E μ K npc L2 st h c) : V E μ K pc L (.ref x :: st) h c := V_astore_n hd hn (by rw [hL]; exact k)
theorem U_lstore {i : Nat} {x : Int64} (hd : Dc (M_c μ) pc (.lstore i) 2 npc) (hn : i + 1 < M_L μ) (hL : aset2 L i (.long x) = L2) (k : V E μ K npc L2 st h c) : V E μ K pc L (.long x :: st) h c := V_lstore hd hn (by rw [hL]; exact k)
theorem U_lstore_n {i : Fin 4} {x : Int64} (hd : Dc (M_c μ) pc (.lstore_n i) 1 npc) (hn : i.1 + 1 < M_L μ) (hL : aset2 L i.1 (.long x) = L2) (k : V E μ K npc L2 st h c) : V E μ K pc L (.long x :: st) h c := V_lstore_n hd hn (by rw [hL]; exact k)
theorem U_iinc {i : Nat} {z : Int} {x v : Int32} (hd : Dc (M_c μ) pc (.iinc i z) 3 npc) (hn : i < M_L μ) (hl : L[i]? = some (.int x)) (hv : x + Int32.ofInt z = v) (hL : aset1 L i (.int v) = L2) (k : V E μ K npc L2 st h c) : V E μ K pc L st h c := V_iinc hd hn hl hv (by rw [hL]; exact k)
theorem U_getI {a idx ci j : Nat} {fs : List Nat} (hd : Dc (M_c μ) pc (.getfield idx) 3 npc) (hf : FL (M_y μ).cls idx ci j) (hs : S[a]? = some (.inr (ci, fs))) (hc : fs[j]? = some (0)) (k : V E μ K npc L (.int (I a j) :: st) (S, I, J) c) : V E μ K pc L (.ref a :: st) (S, I, J) c := V_getI hd hf hs hc k
theorem U_getJ {a idx ci j : Nat} {fs : List Nat} (hd : Dc (M_c μ) pc (.getfield idx) 3 npc) (hf : FL (M_y μ).cls idx ci j) (hs : S[a]? = some (.inr (ci, fs))) (hc : fs[j]? = some (1)) (k : V E μ K npc L (.long (J a j) :: st) (S, I, J) c) : V E μ K pc L (.ref a :: st) (S, I, J) c := V_getJ hd hf hs hc k
theorem U_getR {a idx ci j b : Nat} {fs : List Nat} (hd : Dc (M_c μ) pc (.getfield idx) 3 npc) (hf : FL (M_y μ).cls idx ci j) (hs : S[a]? = some (.inr (ci, fs))) (hc : fs[j]? = some (b + 3)) (k : V E μ K npc L (.ref b :: st) (S, I, J) c) : V E μ K pc L (.ref a :: st) (S, I, J) c := V_getR hd hf hs hc k
theorem U_putI {a idx ci j : Nat} {fs : List Nat} {v : Int32} (hd : Dc (M_c μ) pc (.putfield idx) 3 npc) (hf : FP (M_y μ).cls idx ci j .int) (hs : S[a]? = some (.inr (ci, fs))) (hc : fs[j]? = some 0) (k : V E μ K npc L st (S, upI I a j v, J) c) : V E μ K pc L (.int v :: .ref a :: st) (S, I, J) c := V_putI hd hf hs hc k
theorem U_putZ {a idx ci j : Nat} {fs : List Nat} {v : Int32} (hd : Dc (M_c μ) pc (.putfield idx) 3 npc) (hf : FP (M_y μ).cls idx ci j .boolean) (hv : v = 0 ∨ v = 1) (hs : S[a]? = some (.inr (ci, fs))) (hc : fs[j]? = some 0) (k : V E μ K npc L st (S, upI I a j v, J) c) : V E μ K pc L (.int v :: .ref a :: st) (S, I, J) c := V_putZ hd hf hv hs hc k
theorem U_putJ {a idx ci j : Nat} {fs : List Nat} {v : Int64} (hd : Dc (M_c μ) pc (.putfield idx) 3 npc) (hf : FP (M_y μ).cls idx ci j .long) (hs : S[a]? = some (.inr (ci, fs))) (hc : fs[j]? = some 1) (k : V E μ K npc L st (S, I, upJ J a j v) c) : V E μ K pc L (.long v :: .ref a :: st) (S, I, J) c := V_putJ hd hf hs hc k
theorem U_iald {a n : Nat} {rs : List Nat} {i : Int32} (hd : Dc (M_c μ) pc .iaload 1 npc) (hs : S[a]? = some (.inl (0, n, rs))) (hi : vp_in i n) (k : V E μ K npc L (.int (I a i.toNatClampNeg) :: st) (S, I, J) c) : V E μ K pc L (.int i :: .ref a :: st) (S, I, J) c := V_iald hd hs hi k
theorem U_bald {a n : Nat} {rs : List Nat} {i : Int32} (hd : Dc (M_c μ) pc .baload 1 npc) (hs : S[a]? = some (.inl (1, n, rs))) (hi : vp_in i n) (k : V E μ K npc L (.int (I a i.toNatClampNeg) :: st) (S, I, J) c) : V E μ K pc L (.int i :: .ref a :: st) (S, I, J) c := V_bald hd hs hi k
theorem U_zald {a n : Nat} {rs : List Nat} {i : Int32} (hd : Dc (M_c μ) pc .baload 1 npc) (hs : S[a]? = some (.inl (2, n, rs))) (hi : vp_in i n) (k : V E μ K npc L (.int (I a i.toNatClampNeg) :: st) (S, I, J) c) : V E μ K pc L (.int i :: .ref a :: st) (S, I, J) c := V_zald hd hs hi k
theorem U_lald {a n : Nat} {rs : List Nat} {i : Int32} (hd : Dc (M_c μ) pc .laload 1 npc) (hs : S[a]? = some (.inl (3, n, rs))) (hi : vp_in i n) (k : V E μ K npc L (.long (J a i.toNatClampNeg) :: st) (S, I, J) c) : V E μ K pc L (.int i :: .ref a :: st) (S, I, J) c := V_lald hd hs hi k
theorem U_aald0 {a n b : Nat} {rs : List Nat} {i : Int32} (hd : Dc (M_c μ) pc .aaload 1 npc) (hs : S[a]? = some (.inl (4, n, rs))) (hi : vp_in i n) (hc : rs.getD i.toNatClampNeg 2 = b + 3) (k : V E μ K npc L (.ref b :: st) (S, I, J) c) : V E μ K pc L (.int i :: .ref a :: st) (S, I, J) c := V_aald0 hd hs hi hc k
theorem U_aald1 {a n b : Nat} {rs : List Nat} {i : Int32} (hd : Dc (M_c μ) pc .aaload 1 npc) (hs : S[a]? = some (.inl (5, n, rs))) (hi : vp_in i n) (hc : rs.getD i.toNatClampNeg 2 = b + 3) (k : V E μ K npc L (.ref b :: st) (S, I, J) c) : V E μ K pc L (.int i :: .ref a :: st) (S, I, J) c := V_aald1 hd hs hi hc k
theorem U_iast {a n : Nat} {rs : List Nat} {i v : Int32} (hd : Dc (M_c μ) pc .iastore 1 npc) (hs : S[a]? = some (.inl (0, n, rs))) (hi : vp_in i n) (k : V E μ K npc L st (S, upI I a i.toNatClampNeg v, J) c) : V E μ K pc L (.int v :: .int i :: .ref a :: st) (S, I, J) c := V_iast hd hs hi k
theorem U_bast {a n : Nat} {rs : List Nat} {i v : Int32} (hd : Dc (M_c μ) pc .bastore 1 npc) (hs : S[a]? = some (.inl (1, n, rs))) (hi : vp_in i n) (k : V E μ K npc L st (S, upI I a i.toNatClampNeg v.toInt8.toInt32, J) c) : V E μ K pc L (.int v :: .int i :: .ref a :: st) (S, I, J) c := V_bast hd hs hi k
theorem U_zast {a n : Nat} {rs : List Nat} {i v : Int32} (hd : Dc (M_c μ) pc .bastore 1 npc) (hv : v = 0 ∨ v = 1) (hs : S[a]? = some (.inl (2, n, rs))) (hi : vp_in i n) (k : V E μ K npc L st (S, upI I a i.toNatClampNeg v, J) c) : V E μ K pc L (.int v :: .int i :: .ref a :: st) (S, I, J) c := V_zast hd hs hi (by rw [show vp_nar .boolean v = v by rcases hv with rfl | rfl <;> rfl]; exact k)
theorem U_last {a n : Nat} {rs : List Nat} {i : Int32} {v : Int64} (hd : Dc (M_c μ) pc .lastore 1 npc) (hs : S[a]? = some (.inl (3, n, rs))) (hi : vp_in i n) (k : V E μ K npc L st (S, I, upJ J a i.toNatClampNeg v) c) : V E μ K pc L (.long v :: .int i :: .ref a :: st) (S, I, J) c := V_last hd hs hi k
theorem U_alen {a t n : Nat} {rs : List Nat} {v : Int32} (hd : Dc (M_c μ) pc .arraylength 1 npc) (hs : S[a]? = some (.inl (t, n, rs))) (ht : t < 6) (hv : Int32.ofNat n = v) (k : V E μ K npc L (.int v :: st) (S, I, J) c) : V E μ K pc L (.ref a :: st) (S, I, J) c := V_alen hd hs ht hv k
theorem U_copyI {a b idx n0 n1 : Nat} {r0 r1 : List Nat} {sp dp n : Int32} (hd : Dc (M_c μ) pc (.invokestatic idx) 3 npc) (hl : Cond.methodLink (M_y μ).cls idx arraycopyName ∈ gtb) (hs0 : S[a]? = some (.inl (0, n0, r0))) (hs1 : S[b]? = some (.inl (0, n1, r1))) (h1 : ¬ sp < 0) (h2 : ¬ dp < 0) (h3 : ¬ n < 0) (h4 : sp.toNatClampNeg + n.toNatClampNeg ≤ n0) (h5 : dp.toNatClampNeg + n.toNatClampNeg ≤ n1) (hr : cpok (M_R μ) st = true) (k : V E μ K npc L st (S, cpI I a b sp.toNatClampNeg dp.toNatClampNeg n.toNatClampNeg, J) c) : V E μ K pc L (.int n :: .int dp :: .ref b :: .int sp :: .ref a :: st) (S, I, J) c := V_copyI hd hl hs0 hs1 h1 h2 h3 h4 h5 hr k
theorem U_copyJ {a b idx n0 n1 : Nat} {r0 r1 : List Nat} {sp dp n : Int32} (hd : Dc (M_c μ) pc (.invokestatic idx) 3 npc) (hl : Cond.methodLink (M_y μ).cls idx arraycopyName ∈ gtb) (hs0 : S[a]? = some (.inl (3, n0, r0))) (hs1 : S[b]? = some (.inl (3, n1, r1))) (h1 : ¬ sp < 0) (h2 : ¬ dp < 0) (h3 : ¬ n < 0) (h4 : sp.toNatClampNeg + n.toNatClampNeg ≤ n0) (h5 : dp.toNatClampNeg + n.toNatClampNeg ≤ n1) (hr : cpok (M_R μ) st = true) (k : V E μ K npc L st (S, I, cpJ J a b sp.toNatClampNeg dp.toNatClampNeg n.toNatClampNeg) c) : V E μ K pc L (.int n :: .int dp :: .ref b :: .int sp :: .ref a :: st) (S, I, J) c := V_copyJ hd hl hs0 hs1 h1 h2 h3 h4 h5 hr k
theorem V_c0 {a b : Nat} (ha : a = 0) (hb : b = 0) (k : V E μ K pc L st h c) : V E μ K pc L st h (c.1 + a, c.2 + b) := by subst ha; subst hb; exact k
theorem U_callV0 {idx : Nat} {μ2 : aM} {a : Nat} (As : List Value) (hd : Dc (M_c μ) pc (.invokevirtual idx) 3 npc) (ok : okV (M_y μ).cls idx μ2) {ci : Nat} {fs : List Nat} (hs : S[a]? = some (.inr (ci, fs))) (hci : (CLS[ci]?).map (fun q => q.1) = some (M_y μ2).cls) (hz : M_k μ2 = 0 ∧ (M_R μ2).cells = 0 ∧ (M_R μ2).slots = 0) (hr : rmok (M_R μ) μ2 c = true) (hn : As.length = M_n μ2) (hst : stW st = true) (k : CallV E μ2 (.ref a :: As) S I J (fun I2 J2 => V E μ K npc L (st) (S, I2, J2) c)) : V E μ K pc L (As.reverse ++ .ref a :: st) (S, I, J) c := V_callV0 As hd ok hs hci hz.1 hr hn hst (Call_mono k (fun r h2 ⟨I2, J2, e2, q⟩ => by subst e2; exact V_c0 hz.2.1 hz.2.2 q))
theorem U_callS0 {idx : Nat} {μ2 : aM} (As : List Value) (hd : Dc (M_c μ) pc (.invokestatic idx) 3 npc) (ok : okS (M_y μ).cls idx μ2) (hz : M_k μ2 = 0 ∧ (M_R μ2).cells = 0 ∧ (M_R μ2).slots = 0) (hr : rmok (M_R μ) μ2 c = true) (hn : As.length = M_n μ2) (hst : stW st = true) (k : CallV E μ2 As S I J (fun I2 J2 => V E μ K npc L (st) (S, I2, J2) c)) : V E μ K pc L (As.reverse ++ st) (S, I, J) c := V_callS0 As hd ok hz.1 hr hn hst (Call_mono k (fun r h2 ⟨I2, J2, e2, q⟩ => by subst e2; exact V_c0 hz.2.1 hz.2.2 q))
theorem U_callV1 {idx : Nat} {μ2 : aM} {a : Nat} (As : List Value) (hd : Dc (M_c μ) pc (.invokevirtual idx) 3 npc) (ok : okV (M_y μ).cls idx μ2) {ci : Nat} {fs : List Nat} (hs : S[a]? = some (.inr (ci, fs))) (hci : (CLS[ci]?).map (fun q => q.1) = some (M_y μ2).cls) (hz : M_k μ2 = 1 ∧ (M_R μ2).cells = 0 ∧ (M_R μ2).slots = 0) (hr : rmok (M_R μ) μ2 c = true) (hn : As.length = M_n μ2) (hst : stW st = true) (k : CallI E μ2 (.ref a :: As) S I J (fun x I2 J2 => V E μ K npc L (.int x :: st) (S, I2, J2) c)) : V E μ K pc L (As.reverse ++ .ref a :: st) (S, I, J) c := V_callV1 As hd ok hs hci hz.1 hr hn hst (Call_mono k (fun r h2 ⟨x, I2, J2, e1, e2, q⟩ => by subst e1; subst e2; exact V_c0 hz.2.1 hz.2.2 q))
theorem U_callS1 {idx : Nat} {μ2 : aM} (As : List Value) (hd : Dc (M_c μ) pc (.invokestatic idx) 3 npc) (ok : okS (M_y μ).cls idx μ2) (hz : M_k μ2 = 1 ∧ (M_R μ2).cells = 0 ∧ (M_R μ2).slots = 0) (hr : rmok (M_R μ) μ2 c = true) (hn : As.length = M_n μ2) (hst : stW st = true) (k : CallI E μ2 As S I J (fun x I2 J2 => V E μ K npc L (.int x :: st) (S, I2, J2) c)) : V E μ K pc L (As.reverse ++ st) (S, I, J) c := V_callS1 As hd ok hz.1 hr hn hst (Call_mono k (fun r h2 ⟨x, I2, J2, e1, e2, q⟩ => by subst e1; subst e2; exact V_c0 hz.2.1 hz.2.2 q))
theorem U_callVs {idx : Nat} {μ2 : aM} {j : UInt32} (As : List Value) (hd : Dc (M_c μ) pc (.invokevirtual idx) 3 npc) (ok : okV (M_y μ).cls idx μ2) (hcl : (M_y μ2).cls = "java/lang/String") (hj : j.toNat < 9) (hz : M_k μ2 = 1 ∧ (M_R μ2).cells = 0 ∧ (M_R μ2).slots = 0) (hr : rmok (M_R μ) μ2 c = true) (hn : As.length = M_n μ2) (hst : stW st = true) (k : CallI E μ2 (.float j :: As) S I J (fun x I2 J2 => V E μ K npc L (.int x :: st) (S, I2, J2) c)) : V E μ K pc L (As.reverse ++ .float j :: st) (S, I, J) c := V_callVs As hd ok hcl hj hz.1 hr hn hst (Call_mono k (fun r h2 ⟨x, I2, J2, e1, e2, q⟩ => by subst e1; subst e2; exact V_c0 hz.2.1 hz.2.2 q))
theorem U_callV2 {idx : Nat} {μ2 : aM} {a : Nat} (As : List Value) (hd : Dc (M_c μ) pc (.invokevirtual idx) 3 npc) (ok : okV (M_y μ).cls idx μ2) {ci : Nat} {fs : List Nat} (hs : S[a]? = some (.inr (ci, fs))) (hci : (CLS[ci]?).map (fun q => q.1) = some (M_y μ2).cls) (hz : M_k μ2 = 2 ∧ (M_R μ2).cells = 0 ∧ (M_R μ2).slots = 0) (hr : rmok (M_R μ) μ2 c = true) (hn : As.length = M_n μ2) (hst : stW st = true) (k : CallJ E μ2 (.ref a :: As) S I J (fun x I2 J2 => V E μ K npc L (.long x :: st) (S, I2, J2) c)) : V E μ K pc L (As.reverse ++ .ref a :: st) (S, I, J) c := V_callV2 As hd ok hs hci hz.1 hr hn hst (Call_mono k (fun r h2 ⟨x, I2, J2, e1, e2, q⟩ => by subst e1; subst e2; exact V_c0 hz.2.1 hz.2.2 q))
theorem U_callS2 {idx : Nat} {μ2 : aM} (As : List Value) (hd : Dc (M_c μ) pc (.invokestatic idx) 3 npc) (ok : okS (M_y μ).cls idx μ2) (hz : M_k μ2 = 2 ∧ (M_R μ2).cells = 0 ∧ (M_R μ2).slots = 0) (hr : rmok (M_R μ) μ2 c = true) (hn : As.length = M_n μ2) (hst : stW st = true) (k : CallJ E μ2 As S I J (fun x I2 J2 => V E μ K npc L (.long x :: st) (S, I2, J2) c)) : V E μ K pc L (As.reverse ++ st) (S, I, J) c := V_callS2 As hd ok hz.1 hr hn hst (Call_mono k (fun r h2 ⟨x, I2, J2, e1, e2, q⟩ => by subst e1; subst e2; exact V_c0 hz.2.1 hz.2.2 q))
theorem U_lcmp_eq {off : Int} {x y : Int64} (hd0 : Dc (M_c μ) pc .lcmp 1 pc2) (hd : Dj (M_c μ) pc2 (.ifCond .eq off) 3 npc off tgt) (kt : x = y → V E μ K tgt L st h c) (kf : ¬ (x = y) → V E μ K npc L st h c) : V E μ K pc L (.long y :: .long x :: st) h c := V_lcmp hd0 (V_if_eq hd (fun q => kt (lgc_eq.mp q)) (fun q => kf (fun z => q (lgc_eq.mpr z))))
theorem U_lcmp_ne {off : Int} {x y : Int64} (hd0 : Dc (M_c μ) pc .lcmp 1 pc2) (hd : Dj (M_c μ) pc2 (.ifCond .ne off) 3 npc off tgt) (kt : ¬ x = y → V E μ K tgt L st h c) (kf : ¬ (¬ x = y) → V E μ K npc L st h c) : V E μ K pc L (.long y :: .long x :: st) h c := V_lcmp hd0 (V_if_ne hd (fun q => kt (fun z => q (lgc_eq.mpr z))) (fun q => kf (fun z => z (lgc_eq.mp q))))
theorem U_lcmp_lt {off : Int} {x y : Int64} (hd0 : Dc (M_c μ) pc .lcmp 1 pc2) (hd : Dj (M_c μ) pc2 (.ifCond .lt off) 3 npc off tgt) (kt : x < y → V E μ K tgt L st h c) (kf : ¬ (x < y) → V E μ K npc L st h c) : V E μ K pc L (.long y :: .long x :: st) h c := V_lcmp hd0 (V_if_lt hd (fun q => kt (lgc_lt.mp q)) (fun q => kf (fun z => q (lgc_lt.mpr z))))
theorem U_lcmp_ge {off : Int} {x y : Int64} (hd0 : Dc (M_c μ) pc .lcmp 1 pc2) (hd : Dj (M_c μ) pc2 (.ifCond .ge off) 3 npc off tgt) (kt : y ≤ x → V E μ K tgt L st h c) (kf : ¬ (y ≤ x) → V E μ K npc L st h c) : V E μ K pc L (.long y :: .long x :: st) h c := V_lcmp hd0 (V_if_ge hd (fun q => kt (lgc_ge.mp q)) (fun q => kf (fun z => q (lgc_ge.mpr z))))
theorem U_lcmp_gt {off : Int} {x y : Int64} (hd0 : Dc (M_c μ) pc .lcmp 1 pc2) (hd : Dj (M_c μ) pc2 (.ifCond .gt off) 3 npc off tgt) (kt : y < x → V E μ K tgt L st h c) (kf : ¬ (y < x) → V E μ K npc L st h c) : V E μ K pc L (.long y :: .long x :: st) h c := V_lcmp hd0 (V_if_gt hd (fun q => kt (lgc_gt.mp q)) (fun q => kf (fun z => q (lgc_gt.mpr z))))
theorem U_lcmp_le {off : Int} {x y : Int64} (hd0 : Dc (M_c μ) pc .lcmp 1 pc2) (hd : Dj (M_c μ) pc2 (.ifCond .le off) 3 npc off tgt) (kt : x ≤ y → V E μ K tgt L st h c) (kf : ¬ (x ≤ y) → V E μ K npc L st h c) : V E μ K pc L (.long y :: .long x :: st) h c := V_lcmp hd0 (V_if_le hd (fun q => kt (lgc_le.mp q)) (fun q => kf (fun z => q (lgc_le.mpr z))))
theorem U_ifb_eq {off : Int} {p : Prop} [Decidable p] (hd : Dj (M_c μ) pc (.ifCond .eq off) 3 npc off tgt) (kt : ¬ p → V E μ K tgt L st h c) (kf : p → V E μ K npc L st h c) : V E μ K pc L (.int (b2i p) :: st) h c := V_if_eq hd (fun q => kt (b2i_0.mp q)) (fun q => kf (Decidable.of_not_not (fun z => q (b2i_0.mpr z))))
theorem U_ifb_ne {off : Int} {p : Prop} [Decidable p] (hd : Dj (M_c μ) pc (.ifCond .ne off) 3 npc off tgt) (kt : p → V E μ K tgt L st h c) (kf : ¬ p → V E μ K npc L st h c) : V E μ K pc L (.int (b2i p) :: st) h c := V_if_ne hd (fun q => kt (Decidable.of_not_not (fun z => q (b2i_0.mpr z)))) (fun q => kf (b2i_0.mp q))
end VR
def SH : List aC := [.inr (11, [4, 6, 13, 20, 21, 24, 31, 32, 39, 43, 45, 48, 0, 0]), .inr (8, [5, 0, 0, 0, 0, 0]), .inl (1, 320, []), .inr (3, [7, 8, 9, 10, 11, 12, 0, 0, 0, 0, 0]), .inl (0, 5, []), .inl (0, 25, []), .inl (0, 12, []), .inl (0, 12, []), .inl (0, 12, []), .inl (0, 3, []), .inr (3, [14, 15, 16, 17, 18, 19, 0, 0, 0, 0, 0]), .inl (0, 5, []), .inl (0, 25, []), .inl (0, 12, []), .inl (0, 12, []), .inl (0, 12, []), .inl (0, 3, []), .inr (4, [4, 13, 0, 0, 0, 0, 0]), .inr (2, [6, 22, 23]), .inl (0, 5, []), .inl (0, 5, []), .inr (1, [6, 25, 27, 29, 0]), .inr (5, [0, 0, 26, 0]), .inl (0, 72, []), .inr (5, [0, 0, 28, 0]), .inl (0, 96, []), .inr (5, [0, 0, 30, 0]), .inl (0, 120, []), .inl (4, 2, [49, 56]), .inr (7, [6, 21, 27, 29, 24, 33, 34, 35, 36, 37, 38, 0]), .inl (0, 24, []), .inl (0, 24, []), .inl (0, 24, []), .inl (0, 12, []), .inl (0, 12, []), .inl (0, 12, []), .inr (0, [21, 27, 40, 41, 42, 0, 0]), .inl (0, 12, []), .inl (0, 12, []), .inl (0, 12, []), .inr (9, [6, 21, 44]), .inl (0, 5, []), .inr (10, [6, 46, 47]), .inl (3, 25, []), .inl (3, 25, []), .inl (5, 4, [63, 65, 67, 69]), .inr (1, [6, 50, 52, 54, 0]), .inr (5, [0, 0, 51, 0]), .inl (0, 72, []), .inr (5, [0, 0, 53, 0]), .inl (0, 96, []), .inr (5, [0, 0, 55, 0]), .inl (0, 120, []), .inr (1, [6, 57, 59, 61, 0]), .inr (5, [0, 0, 58, 0]), .inl (0, 72, []), .inr (5, [0, 0, 60, 0]), .inl (0, 96, []), .inr (5, [0, 0, 62, 0]), .inl (0, 120, []), .inr (6, [64, 0, 0]), .inl (0, 40, []), .inr (6, [66, 0, 0]), .inl (0, 40, []), .inr (6, [68, 0, 0]), .inl (0, 40, []), .inr (6, [70, 0, 0]), .inl (0, 40, []), .inr (12, [72, 0, 0, 0, 0, 0, 0, 0, 0, 73, 74, 75, 76, 77, 78, 79, 80, 81, 82, 83, 0, 84, 85, 86, 87, 88, 89, 90, 0, 0, 91, 92, 1, 93, 94, 95, 96, 0]), .inl (0, 320, []), .inl (0, 10, []), .inl (0, 40, []), .inl (0, 8, []), .inl (0, 8, []), .inl (0, 5, []), .inl (0, 25, []), .inl (0, 48, []), .inl (0, 8, []), .inl (0, 5, []), .inl (0, 25, []), .inl (0, 48, []), .inl (0, 5, []), .inl (0, 900, []), .inl (0, 24, []), .inl (0, 24, []), .inl (2, 24, []), .inl (2, 24, []), .inl (0, 12, []), .inl (3, 25, []), .inl (3, 25, []), .inl (2, 2, []), .inl (0, 4, []), .inl (0, 4, []), .inl (0, 160, [])]
theorem s_0 : SH[0]? = some (.inr (11, [4, 6, 13, 20, 21, 24, 31, 32, 39, 43, 45, 48, 0, 0])) := rfl
theorem s_1 : SH[1]? = some (.inr (8, [5, 0, 0, 0, 0, 0])) := rfl
theorem s_2 : SH[2]? = some (.inl (1, 320, [])) := rfl
theorem s_3 : SH[3]? = some (.inr (3, [7, 8, 9, 10, 11, 12, 0, 0, 0, 0, 0])) := rfl
theorem s_4 : SH[4]? = some (.inl (0, 5, [])) := rfl
theorem s_5 : SH[5]? = some (.inl (0, 25, [])) := rfl
theorem s_6 : SH[6]? = some (.inl (0, 12, [])) := rfl
theorem s_7 : SH[7]? = some (.inl (0, 12, [])) := rfl
theorem s_8 : SH[8]? = some (.inl (0, 12, [])) := rfl
theorem s_9 : SH[9]? = some (.inl (0, 3, [])) := rfl
theorem s_10 : SH[10]? = some (.inr (3, [14, 15, 16, 17, 18, 19, 0, 0, 0, 0, 0])) := rfl
theorem s_11 : SH[11]? = some (.inl (0, 5, [])) := rfl
theorem s_12 : SH[12]? = some (.inl (0, 25, [])) := rfl
theorem s_13 : SH[13]? = some (.inl (0, 12, [])) := rfl
theorem s_14 : SH[14]? = some (.inl (0, 12, [])) := rfl
theorem s_15 : SH[15]? = some (.inl (0, 12, [])) := rfl
theorem s_16 : SH[16]? = some (.inl (0, 3, [])) := rfl
theorem s_17 : SH[17]? = some (.inr (4, [4, 13, 0, 0, 0, 0, 0])) := rfl
theorem s_18 : SH[18]? = some (.inr (2, [6, 22, 23])) := rfl
theorem s_19 : SH[19]? = some (.inl (0, 5, [])) := rfl
theorem s_20 : SH[20]? = some (.inl (0, 5, [])) := rfl
theorem s_21 : SH[21]? = some (.inr (1, [6, 25, 27, 29, 0])) := rfl
theorem s_22 : SH[22]? = some (.inr (5, [0, 0, 26, 0])) := rfl
theorem s_23 : SH[23]? = some (.inl (0, 72, [])) := rfl
theorem s_24 : SH[24]? = some (.inr (5, [0, 0, 28, 0])) := rfl
theorem s_25 : SH[25]? = some (.inl (0, 96, [])) := rfl
theorem s_26 : SH[26]? = some (.inr (5, [0, 0, 30, 0])) := rfl
theorem s_27 : SH[27]? = some (.inl (0, 120, [])) := rfl
theorem s_28 : SH[28]? = some (.inl (4, 2, [49, 56])) := rfl
theorem s_29 : SH[29]? = some (.inr (7, [6, 21, 27, 29, 24, 33, 34, 35, 36, 37, 38, 0])) := rfl
theorem s_30 : SH[30]? = some (.inl (0, 24, [])) := rfl
theorem s_31 : SH[31]? = some (.inl (0, 24, [])) := rfl
theorem s_32 : SH[32]? = some (.inl (0, 24, [])) := rfl
theorem s_33 : SH[33]? = some (.inl (0, 12, [])) := rfl
theorem s_34 : SH[34]? = some (.inl (0, 12, [])) := rfl
theorem s_35 : SH[35]? = some (.inl (0, 12, [])) := rfl
theorem s_36 : SH[36]? = some (.inr (0, [21, 27, 40, 41, 42, 0, 0])) := rfl
theorem s_37 : SH[37]? = some (.inl (0, 12, [])) := rfl
theorem s_38 : SH[38]? = some (.inl (0, 12, [])) := rfl
theorem s_39 : SH[39]? = some (.inl (0, 12, [])) := rfl
theorem s_40 : SH[40]? = some (.inr (9, [6, 21, 44])) := rfl
theorem s_41 : SH[41]? = some (.inl (0, 5, [])) := rfl
theorem s_42 : SH[42]? = some (.inr (10, [6, 46, 47])) := rfl
theorem s_43 : SH[43]? = some (.inl (3, 25, [])) := rfl
theorem s_44 : SH[44]? = some (.inl (3, 25, [])) := rfl
theorem s_45 : SH[45]? = some (.inl (5, 4, [63, 65, 67, 69])) := rfl
theorem s_46 : SH[46]? = some (.inr (1, [6, 50, 52, 54, 0])) := rfl
theorem s_47 : SH[47]? = some (.inr (5, [0, 0, 51, 0])) := rfl
theorem s_48 : SH[48]? = some (.inl (0, 72, [])) := rfl
theorem s_49 : SH[49]? = some (.inr (5, [0, 0, 53, 0])) := rfl
theorem s_50 : SH[50]? = some (.inl (0, 96, [])) := rfl
theorem s_51 : SH[51]? = some (.inr (5, [0, 0, 55, 0])) := rfl
theorem s_52 : SH[52]? = some (.inl (0, 120, [])) := rfl
theorem s_53 : SH[53]? = some (.inr (1, [6, 57, 59, 61, 0])) := rfl
theorem s_54 : SH[54]? = some (.inr (5, [0, 0, 58, 0])) := rfl
theorem s_55 : SH[55]? = some (.inl (0, 72, [])) := rfl
theorem s_56 : SH[56]? = some (.inr (5, [0, 0, 60, 0])) := rfl
theorem s_57 : SH[57]? = some (.inl (0, 96, [])) := rfl
theorem s_58 : SH[58]? = some (.inr (5, [0, 0, 62, 0])) := rfl
theorem s_59 : SH[59]? = some (.inl (0, 120, [])) := rfl
theorem s_60 : SH[60]? = some (.inr (6, [64, 0, 0])) := rfl
theorem s_61 : SH[61]? = some (.inl (0, 40, [])) := rfl
theorem s_62 : SH[62]? = some (.inr (6, [66, 0, 0])) := rfl
theorem s_63 : SH[63]? = some (.inl (0, 40, [])) := rfl
theorem s_64 : SH[64]? = some (.inr (6, [68, 0, 0])) := rfl
theorem s_65 : SH[65]? = some (.inl (0, 40, [])) := rfl
theorem s_66 : SH[66]? = some (.inr (6, [70, 0, 0])) := rfl
theorem s_67 : SH[67]? = some (.inl (0, 40, [])) := rfl
theorem s_68 : SH[68]? = some (.inr (12, [72, 0, 0, 0, 0, 0, 0, 0, 0, 73, 74, 75, 76, 77, 78, 79, 80, 81, 82, 83, 0, 84, 85, 86, 87, 88, 89, 90, 0, 0, 91, 92, 1, 93, 94, 95, 96, 0])) := rfl
theorem s_69 : SH[69]? = some (.inl (0, 320, [])) := rfl
theorem s_70 : SH[70]? = some (.inl (0, 10, [])) := rfl
theorem s_71 : SH[71]? = some (.inl (0, 40, [])) := rfl
theorem s_72 : SH[72]? = some (.inl (0, 8, [])) := rfl
theorem s_73 : SH[73]? = some (.inl (0, 8, [])) := rfl
theorem s_74 : SH[74]? = some (.inl (0, 5, [])) := rfl
theorem s_75 : SH[75]? = some (.inl (0, 25, [])) := rfl
theorem s_76 : SH[76]? = some (.inl (0, 48, [])) := rfl
theorem s_77 : SH[77]? = some (.inl (0, 8, [])) := rfl
theorem s_78 : SH[78]? = some (.inl (0, 5, [])) := rfl
theorem s_79 : SH[79]? = some (.inl (0, 25, [])) := rfl
theorem s_80 : SH[80]? = some (.inl (0, 48, [])) := rfl
theorem s_81 : SH[81]? = some (.inl (0, 5, [])) := rfl
theorem s_82 : SH[82]? = some (.inl (0, 900, [])) := rfl
theorem s_83 : SH[83]? = some (.inl (0, 24, [])) := rfl
theorem s_84 : SH[84]? = some (.inl (0, 24, [])) := rfl
theorem s_85 : SH[85]? = some (.inl (2, 24, [])) := rfl
theorem s_86 : SH[86]? = some (.inl (2, 24, [])) := rfl
theorem s_87 : SH[87]? = some (.inl (0, 12, [])) := rfl
theorem s_88 : SH[88]? = some (.inl (3, 25, [])) := rfl
theorem s_89 : SH[89]? = some (.inl (3, 25, [])) := rfl
theorem s_90 : SH[90]? = some (.inl (2, 2, [])) := rfl
theorem s_91 : SH[91]? = some (.inl (0, 4, [])) := rfl
theorem s_92 : SH[92]? = some (.inl (0, 4, [])) := rfl
theorem s_93 : SH[93]? = some (.inl (0, 160, [])) := rfl
end
