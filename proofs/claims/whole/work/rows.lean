section
-- ===== PART A: goes FIRST, ahead of the names: the tables' words, and 'selects' of the private methods out of them =====
/-- a private method of a class that the tables say can be made, by its rows of tables_1 -/
def lw_okq (q : MethodName × Nat) : Prop := (q.1.cls ≠ "java/lang/invoke/MethodHandle" ∧ q.1.cls ≠ "java/lang/invoke/VarHandle") ∧ Cond.instantiable q.1.cls q.2 ∈ tables_1 ∧ Cond.privateMethod q.1 ∈ tables_1 ∧ Cond.instanceMethod q.1 ∈ tables_1
theorem lw_p0 : lw_okq (⟨"LatePrices$Tape", "endOfRun", "(III)I"⟩, 6) := ⟨⟨by decide +kernel, by decide +kernel⟩, List.mem_of_getElem? (i := 30) (by decide +kernel), List.mem_of_getElem? (i := 441) (by decide +kernel), List.mem_of_getElem? (i := 442) (by decide +kernel)⟩
theorem lw_p1 : lw_okq (⟨"LatePrices$Tape", "byteAt", "(I)I"⟩, 6) := ⟨⟨by decide +kernel, by decide +kernel⟩, List.mem_of_getElem? (i := 30) (by decide +kernel), List.mem_of_getElem? (i := 445) (by decide +kernel), List.mem_of_getElem? (i := 446) (by decide +kernel)⟩
theorem lw_p2 : lw_okq (⟨"LatePrices$Reader", "isOf", "(I)Z"⟩, 7) := ⟨⟨by decide +kernel, by decide +kernel⟩, List.mem_of_getElem? (i := 137) (by decide +kernel), List.mem_of_getElem? (i := 449) (by decide +kernel), List.mem_of_getElem? (i := 450) (by decide +kernel)⟩
theorem lw_p3 : lw_okq (⟨"LatePrices$Reader", "fail", "(I)Z"⟩, 7) := ⟨⟨by decide +kernel, by decide +kernel⟩, List.mem_of_getElem? (i := 137) (by decide +kernel), List.mem_of_getElem? (i := 453) (by decide +kernel), List.mem_of_getElem? (i := 454) (by decide +kernel)⟩
theorem lw_p4 : lw_okq (⟨"LatePrices$Reader", "takeLine", "()Z"⟩, 7) := ⟨⟨by decide +kernel, by decide +kernel⟩, List.mem_of_getElem? (i := 137) (by decide +kernel), List.mem_of_getElem? (i := 457) (by decide +kernel), List.mem_of_getElem? (i := 458) (by decide +kernel)⟩
theorem lw_p5 : lw_okq (⟨"LatePrices$Reader", "takePlace", "()Z"⟩, 7) := ⟨⟨by decide +kernel, by decide +kernel⟩, List.mem_of_getElem? (i := 137) (by decide +kernel), List.mem_of_getElem? (i := 514) (by decide +kernel), List.mem_of_getElem? (i := 515) (by decide +kernel)⟩
theorem lw_p6 : lw_okq (⟨"LatePrices$Reader", "takeNumber", "(II)Z"⟩, 7) := ⟨⟨by decide +kernel, by decide +kernel⟩, List.mem_of_getElem? (i := 137) (by decide +kernel), List.mem_of_getElem? (i := 518) (by decide +kernel), List.mem_of_getElem? (i := 519) (by decide +kernel)⟩
theorem lw_p7 : lw_okq (⟨"LatePrices$Reader", "takeWay", "()Z"⟩, 7) := ⟨⟨by decide +kernel, by decide +kernel⟩, List.mem_of_getElem? (i := 137) (by decide +kernel), List.mem_of_getElem? (i := 523) (by decide +kernel), List.mem_of_getElem? (i := 524) (by decide +kernel)⟩
theorem lw_p8 : lw_okq (⟨"LatePrices$Reader", "takeShut", "()Z"⟩, 7) := ⟨⟨by decide +kernel, by decide +kernel⟩, List.mem_of_getElem? (i := 137) (by decide +kernel), List.mem_of_getElem? (i := 531) (by decide +kernel), List.mem_of_getElem? (i := 532) (by decide +kernel)⟩
theorem lw_p9 : lw_okq (⟨"LatePrices$Reader", "takeMoves", "()Z"⟩, 7) := ⟨⟨by decide +kernel, by decide +kernel⟩, List.mem_of_getElem? (i := 137) (by decide +kernel), List.mem_of_getElem? (i := 536) (by decide +kernel), List.mem_of_getElem? (i := 537) (by decide +kernel)⟩
theorem lw_p10 : lw_okq (⟨"LatePrices$Reader", "takeFirst", "()Z"⟩, 7) := ⟨⟨by decide +kernel, by decide +kernel⟩, List.mem_of_getElem? (i := 137) (by decide +kernel), List.mem_of_getElem? (i := 545) (by decide +kernel), List.mem_of_getElem? (i := 546) (by decide +kernel)⟩
theorem lw_p11 : lw_okq (⟨"LatePrices$Reader", "takeMost", "()Z"⟩, 7) := ⟨⟨by decide +kernel, by decide +kernel⟩, List.mem_of_getElem? (i := 137) (by decide +kernel), List.mem_of_getElem? (i := 553) (by decide +kernel), List.mem_of_getElem? (i := 554) (by decide +kernel)⟩
theorem lw_p12 : lw_okq (⟨"LatePrices", "isPlace", "(I)Z"⟩, 14) := ⟨⟨by decide +kernel, by decide +kernel⟩, List.mem_of_getElem? (i := 22) (by decide +kernel), List.mem_of_getElem? (i := 580) (by decide +kernel), List.mem_of_getElem? (i := 581) (by decide +kernel)⟩
theorem lw_p13 : lw_okq (⟨"LatePrices$News", "firstReached", "(I)I"⟩, 3) := ⟨⟨by decide +kernel, by decide +kernel⟩, List.mem_of_getElem? (i := 167) (by decide +kernel), List.mem_of_getElem? (i := 601) (by decide +kernel), List.mem_of_getElem? (i := 602) (by decide +kernel)⟩
theorem lw_p14 : lw_okq (⟨"LatePrices$News", "goOn", "(I)V"⟩, 3) := ⟨⟨by decide +kernel, by decide +kernel⟩, List.mem_of_getElem? (i := 167) (by decide +kernel), List.mem_of_getElem? (i := 605) (by decide +kernel), List.mem_of_getElem? (i := 606) (by decide +kernel)⟩
theorem lw_p15 : lw_okq (⟨"LatePrices$News", "lastLeft", "(I)I"⟩, 3) := ⟨⟨by decide +kernel, by decide +kernel⟩, List.mem_of_getElem? (i := 167) (by decide +kernel), List.mem_of_getElem? (i := 632) (by decide +kernel), List.mem_of_getElem? (i := 633) (by decide +kernel)⟩
def lw_privs_1 : List (MethodName × Nat) := [(⟨"LatePrices$Tape", "endOfRun", "(III)I"⟩, 6), (⟨"LatePrices$Tape", "byteAt", "(I)I"⟩, 6), (⟨"LatePrices$Reader", "isOf", "(I)Z"⟩, 7), (⟨"LatePrices$Reader", "fail", "(I)Z"⟩, 7), (⟨"LatePrices$Reader", "takeLine", "()Z"⟩, 7), (⟨"LatePrices$Reader", "takePlace", "()Z"⟩, 7), (⟨"LatePrices$Reader", "takeNumber", "(II)Z"⟩, 7), (⟨"LatePrices$Reader", "takeWay", "()Z"⟩, 7), (⟨"LatePrices$Reader", "takeShut", "()Z"⟩, 7), (⟨"LatePrices$Reader", "takeMoves", "()Z"⟩, 7), (⟨"LatePrices$Reader", "takeFirst", "()Z"⟩, 7), (⟨"LatePrices$Reader", "takeMost", "()Z"⟩, 7), (⟨"LatePrices", "isPlace", "(I)Z"⟩, 14), (⟨"LatePrices$News", "firstReached", "(I)I"⟩, 3), (⟨"LatePrices$News", "goOn", "(I)V"⟩, 3), (⟨"LatePrices$News", "lastLeft", "(I)I"⟩, 3)]
theorem lw_r1 : ∀ q ∈ lw_privs_1, lw_okq q := List.forall_mem_cons.mpr ⟨lw_p0, List.forall_mem_cons.mpr ⟨lw_p1, List.forall_mem_cons.mpr ⟨lw_p2, List.forall_mem_cons.mpr ⟨lw_p3, List.forall_mem_cons.mpr ⟨lw_p4, List.forall_mem_cons.mpr ⟨lw_p5, List.forall_mem_cons.mpr ⟨lw_p6, List.forall_mem_cons.mpr ⟨lw_p7, List.forall_mem_cons.mpr ⟨lw_p8, List.forall_mem_cons.mpr ⟨lw_p9, List.forall_mem_cons.mpr ⟨lw_p10, List.forall_mem_cons.mpr ⟨lw_p11, List.forall_mem_cons.mpr ⟨lw_p12, List.forall_mem_cons.mpr ⟨lw_p13, List.forall_mem_cons.mpr ⟨lw_p14, List.forall_mem_cons.mpr ⟨lw_p15, fun _ h => absurd h List.not_mem_nil⟩⟩⟩⟩⟩⟩⟩⟩⟩⟩⟩⟩⟩⟩⟩⟩
theorem lw_p16 : lw_okq (⟨"LatePrices$News", "goBack", "(I)V"⟩, 3) := ⟨⟨by decide +kernel, by decide +kernel⟩, List.mem_of_getElem? (i := 167) (by decide +kernel), List.mem_of_getElem? (i := 636) (by decide +kernel), List.mem_of_getElem? (i := 637) (by decide +kernel)⟩
theorem lw_p17 : lw_okq (⟨"LatePrices", "isCall", "(I)Z"⟩, 14) := ⟨⟨by decide +kernel, by decide +kernel⟩, List.mem_of_getElem? (i := 22) (by decide +kernel), List.mem_of_getElem? (i := 686) (by decide +kernel), List.mem_of_getElem? (i := 687) (by decide +kernel)⟩
theorem lw_p18 : lw_okq (⟨"LatePrices$Ledger", "lastUnmoved", "(I)I"⟩, 5) := ⟨⟨by decide +kernel, by decide +kernel⟩, List.mem_of_getElem? (i := 186) (by decide +kernel), List.mem_of_getElem? (i := 699) (by decide +kernel), List.mem_of_getElem? (i := 700) (by decide +kernel)⟩
theorem lw_p19 : lw_okq (⟨"LatePrices$Strikes", "putInOrder", "()V"⟩, 12) := ⟨⟨by decide +kernel, by decide +kernel⟩, List.mem_of_getElem? (i := 241) (by decide +kernel), List.mem_of_getElem? (i := 714) (by decide +kernel), List.mem_of_getElem? (i := 715) (by decide +kernel)⟩
theorem lw_p20 : lw_okq (⟨"LatePrices$Strikes", "isAhead", "(II)Z"⟩, 12) := ⟨⟨by decide +kernel, by decide +kernel⟩, List.mem_of_getElem? (i := 241) (by decide +kernel), List.mem_of_getElem? (i := 718) (by decide +kernel), List.mem_of_getElem? (i := 719) (by decide +kernel)⟩
theorem lw_p21 : lw_okq (⟨"LatePrices$Strikes", "strike", "(I)V"⟩, 12) := ⟨⟨by decide +kernel, by decide +kernel⟩, List.mem_of_getElem? (i := 241) (by decide +kernel), List.mem_of_getElem? (i := 722) (by decide +kernel), List.mem_of_getElem? (i := 723) (by decide +kernel)⟩
theorem lw_p22 : lw_okq (⟨"LatePrices$Strikes", "isStanding", "(II)Z"⟩, 12) := ⟨⟨by decide +kernel, by decide +kernel⟩, List.mem_of_getElem? (i := 241) (by decide +kernel), List.mem_of_getElem? (i := 726) (by decide +kernel), List.mem_of_getElem? (i := 727) (by decide +kernel)⟩
theorem lw_p23 : lw_okq (⟨"LatePrices", "isDeal", "(I)Z"⟩, 14) := ⟨⟨by decide +kernel, by decide +kernel⟩, List.mem_of_getElem? (i := 22) (by decide +kernel), List.mem_of_getElem? (i := 752) (by decide +kernel), List.mem_of_getElem? (i := 753) (by decide +kernel)⟩
theorem lw_p24 : lw_okq (⟨"LatePrices", "isEmptyAs", "(II)Z"⟩, 14) := ⟨⟨by decide +kernel, by decide +kernel⟩, List.mem_of_getElem? (i := 22) (by decide +kernel), List.mem_of_getElem? (i := 765) (by decide +kernel), List.mem_of_getElem? (i := 766) (by decide +kernel)⟩
theorem lw_p25 : lw_okq (⟨"LatePrices$Strikes", "payment", "(II)I"⟩, 12) := ⟨⟨by decide +kernel, by decide +kernel⟩, List.mem_of_getElem? (i := 241) (by decide +kernel), List.mem_of_getElem? (i := 778) (by decide +kernel), List.mem_of_getElem? (i := 779) (by decide +kernel)⟩
theorem lw_p26 : lw_okq (⟨"LatePrices$Strikes", "sumOfDearest", "(II)I"⟩, 12) := ⟨⟨by decide +kernel, by decide +kernel⟩, List.mem_of_getElem? (i := 241) (by decide +kernel), List.mem_of_getElem? (i := 786) (by decide +kernel), List.mem_of_getElem? (i := 787) (by decide +kernel)⟩
theorem lw_p27 : lw_okq (⟨"LatePrices$Gains", "setStretch", "(IIZ)V"⟩, 7) := ⟨⟨by decide +kernel, by decide +kernel⟩, List.mem_of_getElem? (i := 287) (by decide +kernel), List.mem_of_getElem? (i := 803) (by decide +kernel), List.mem_of_getElem? (i := 804) (by decide +kernel)⟩
theorem lw_p28 : lw_okq (⟨"LatePrices$Gains", "best", "(I)I"⟩, 7) := ⟨⟨by decide +kernel, by decide +kernel⟩, List.mem_of_getElem? (i := 287) (by decide +kernel), List.mem_of_getElem? (i := 814) (by decide +kernel), List.mem_of_getElem? (i := 815) (by decide +kernel)⟩
theorem lw_p29 : lw_okq (⟨"LatePrices$Gains", "margin", "(II)I"⟩, 7) := ⟨⟨by decide +kernel, by decide +kernel⟩, List.mem_of_getElem? (i := 287) (by decide +kernel), List.mem_of_getElem? (i := 818) (by decide +kernel), List.mem_of_getElem? (i := 819) (by decide +kernel)⟩
theorem lw_p30 : lw_okq (⟨"LatePrices$Strikes", "unitsLeft", "(II)I"⟩, 12) := ⟨⟨by decide +kernel, by decide +kernel⟩, List.mem_of_getElem? (i := 241) (by decide +kernel), List.mem_of_getElem? (i := 846) (by decide +kernel), List.mem_of_getElem? (i := 847) (by decide +kernel)⟩
theorem lw_p31 : lw_okq (⟨"LatePrices$Waits", "longestBehind", "(IIIII)I"⟩, 3) := ⟨⟨by decide +kernel, by decide +kernel⟩, List.mem_of_getElem? (i := 317) (by decide +kernel), List.mem_of_getElem? (i := 886) (by decide +kernel), List.mem_of_getElem? (i := 887) (by decide +kernel)⟩
def lw_privs_2 : List (MethodName × Nat) := [(⟨"LatePrices$News", "goBack", "(I)V"⟩, 3), (⟨"LatePrices", "isCall", "(I)Z"⟩, 14), (⟨"LatePrices$Ledger", "lastUnmoved", "(I)I"⟩, 5), (⟨"LatePrices$Strikes", "putInOrder", "()V"⟩, 12), (⟨"LatePrices$Strikes", "isAhead", "(II)Z"⟩, 12), (⟨"LatePrices$Strikes", "strike", "(I)V"⟩, 12), (⟨"LatePrices$Strikes", "isStanding", "(II)Z"⟩, 12), (⟨"LatePrices", "isDeal", "(I)Z"⟩, 14), (⟨"LatePrices", "isEmptyAs", "(II)Z"⟩, 14), (⟨"LatePrices$Strikes", "payment", "(II)I"⟩, 12), (⟨"LatePrices$Strikes", "sumOfDearest", "(II)I"⟩, 12), (⟨"LatePrices$Gains", "setStretch", "(IIZ)V"⟩, 7), (⟨"LatePrices$Gains", "best", "(I)I"⟩, 7), (⟨"LatePrices$Gains", "margin", "(II)I"⟩, 7), (⟨"LatePrices$Strikes", "unitsLeft", "(II)I"⟩, 12), (⟨"LatePrices$Waits", "longestBehind", "(IIIII)I"⟩, 3)]
theorem lw_r2 : ∀ q ∈ lw_privs_2, lw_okq q := List.forall_mem_cons.mpr ⟨lw_p16, List.forall_mem_cons.mpr ⟨lw_p17, List.forall_mem_cons.mpr ⟨lw_p18, List.forall_mem_cons.mpr ⟨lw_p19, List.forall_mem_cons.mpr ⟨lw_p20, List.forall_mem_cons.mpr ⟨lw_p21, List.forall_mem_cons.mpr ⟨lw_p22, List.forall_mem_cons.mpr ⟨lw_p23, List.forall_mem_cons.mpr ⟨lw_p24, List.forall_mem_cons.mpr ⟨lw_p25, List.forall_mem_cons.mpr ⟨lw_p26, List.forall_mem_cons.mpr ⟨lw_p27, List.forall_mem_cons.mpr ⟨lw_p28, List.forall_mem_cons.mpr ⟨lw_p29, List.forall_mem_cons.mpr ⟨lw_p30, List.forall_mem_cons.mpr ⟨lw_p31, fun _ h => absurd h List.not_mem_nil⟩⟩⟩⟩⟩⟩⟩⟩⟩⟩⟩⟩⟩⟩⟩⟩
theorem lw_p32 : lw_okq (⟨"LatePricesModel", "next", "()V"⟩, 38) := ⟨⟨by decide +kernel, by decide +kernel⟩, List.mem_of_getElem? (i := 1014) (by decide +kernel), List.mem_of_getElem? (i := 1151) (by decide +kernel), List.mem_of_getElem? (i := 1152) (by decide +kernel)⟩
theorem lw_p33 : lw_okq (⟨"LatePricesModel", "byteAt", "(I)I"⟩, 38) := ⟨⟨by decide +kernel, by decide +kernel⟩, List.mem_of_getElem? (i := 1014) (by decide +kernel), List.mem_of_getElem? (i := 1155) (by decide +kernel), List.mem_of_getElem? (i := 1156) (by decide +kernel)⟩
theorem lw_p34 : lw_okq (⟨"LatePricesModel", "fails", "(I)V"⟩, 38) := ⟨⟨by decide +kernel, by decide +kernel⟩, List.mem_of_getElem? (i := 1014) (by decide +kernel), List.mem_of_getElem? (i := 1163) (by decide +kernel), List.mem_of_getElem? (i := 1164) (by decide +kernel)⟩
theorem lw_p35 : lw_okq (⟨"LatePricesModel", "readLine", "()V"⟩, 38) := ⟨⟨by decide +kernel, by decide +kernel⟩, List.mem_of_getElem? (i := 1014) (by decide +kernel), List.mem_of_getElem? (i := 1167) (by decide +kernel), List.mem_of_getElem? (i := 1168) (by decide +kernel)⟩
theorem lw_p36 : lw_okq (⟨"LatePricesModel", "nameHere", "()I"⟩, 38) := ⟨⟨by decide +kernel, by decide +kernel⟩, List.mem_of_getElem? (i := 1014) (by decide +kernel), List.mem_of_getElem? (i := 1171) (by decide +kernel), List.mem_of_getElem? (i := 1172) (by decide +kernel)⟩
theorem lw_p37 : lw_okq (⟨"LatePricesModel", "number", "(II)I"⟩, 38) := ⟨⟨by decide +kernel, by decide +kernel⟩, List.mem_of_getElem? (i := 1014) (by decide +kernel), List.mem_of_getElem? (i := 1176) (by decide +kernel), List.mem_of_getElem? (i := 1177) (by decide +kernel)⟩
theorem lw_p38 : lw_okq (⟨"LatePricesModel", "here", "(II)I"⟩, 38) := ⟨⟨by decide +kernel, by decide +kernel⟩, List.mem_of_getElem? (i := 1014) (by decide +kernel), List.mem_of_getElem? (i := 1180) (by decide +kernel), List.mem_of_getElem? (i := 1181) (by decide +kernel)⟩
theorem lw_p39 : lw_okq (⟨"LatePricesModel", "readWay", "()V"⟩, 38) := ⟨⟨by decide +kernel, by decide +kernel⟩, List.mem_of_getElem? (i := 1014) (by decide +kernel), List.mem_of_getElem? (i := 1184) (by decide +kernel), List.mem_of_getElem? (i := 1185) (by decide +kernel)⟩
theorem lw_p40 : lw_okq (⟨"LatePricesModel", "readShut", "()V"⟩, 38) := ⟨⟨by decide +kernel, by decide +kernel⟩, List.mem_of_getElem? (i := 1014) (by decide +kernel), List.mem_of_getElem? (i := 1188) (by decide +kernel), List.mem_of_getElem? (i := 1189) (by decide +kernel)⟩
theorem lw_p41 : lw_okq (⟨"LatePricesModel", "readRule", "(I)V"⟩, 38) := ⟨⟨by decide +kernel, by decide +kernel⟩, List.mem_of_getElem? (i := 1014) (by decide +kernel), List.mem_of_getElem? (i := 1192) (by decide +kernel), List.mem_of_getElem? (i := 1193) (by decide +kernel)⟩
theorem lw_p42 : lw_okq (⟨"LatePricesModel", "isPlace", "(I)Z"⟩, 38) := ⟨⟨by decide +kernel, by decide +kernel⟩, List.mem_of_getElem? (i := 1014) (by decide +kernel), List.mem_of_getElem? (i := 1209) (by decide +kernel), List.mem_of_getElem? (i := 1210) (by decide +kernel)⟩
theorem lw_p43 : lw_okq (⟨"LatePricesModel", "news", "(III)I"⟩, 38) := ⟨⟨by decide +kernel, by decide +kernel⟩, List.mem_of_getElem? (i := 1014) (by decide +kernel), List.mem_of_getElem? (i := 1221) (by decide +kernel), List.mem_of_getElem? (i := 1222) (by decide +kernel)⟩
theorem lw_p44 : lw_okq (⟨"LatePricesModel", "layNews", "(II)V"⟩, 38) := ⟨⟨by decide +kernel, by decide +kernel⟩, List.mem_of_getElem? (i := 1014) (by decide +kernel), List.mem_of_getElem? (i := 1225) (by decide +kernel), List.mem_of_getElem? (i := 1226) (by decide +kernel)⟩
theorem lw_p45 : lw_okq (⟨"LatePricesModel", "leaves", "(III)I"⟩, 38) := ⟨⟨by decide +kernel, by decide +kernel⟩, List.mem_of_getElem? (i := 1014) (by decide +kernel), List.mem_of_getElem? (i := 1229) (by decide +kernel), List.mem_of_getElem? (i := 1230) (by decide +kernel)⟩
theorem lw_p46 : lw_okq (⟨"LatePricesModel", "latest", "(III)I"⟩, 38) := ⟨⟨by decide +kernel, by decide +kernel⟩, List.mem_of_getElem? (i := 1014) (by decide +kernel), List.mem_of_getElem? (i := 1241) (by decide +kernel), List.mem_of_getElem? (i := 1242) (by decide +kernel)⟩
theorem lw_p47 : lw_okq (⟨"LatePricesModel", "priceAt", "(II)I"⟩, 38) := ⟨⟨by decide +kernel, by decide +kernel⟩, List.mem_of_getElem? (i := 1014) (by decide +kernel), List.mem_of_getElem? (i := 1245) (by decide +kernel), List.mem_of_getElem? (i := 1246) (by decide +kernel)⟩
def lw_privs_3 : List (MethodName × Nat) := [(⟨"LatePricesModel", "next", "()V"⟩, 38), (⟨"LatePricesModel", "byteAt", "(I)I"⟩, 38), (⟨"LatePricesModel", "fails", "(I)V"⟩, 38), (⟨"LatePricesModel", "readLine", "()V"⟩, 38), (⟨"LatePricesModel", "nameHere", "()I"⟩, 38), (⟨"LatePricesModel", "number", "(II)I"⟩, 38), (⟨"LatePricesModel", "here", "(II)I"⟩, 38), (⟨"LatePricesModel", "readWay", "()V"⟩, 38), (⟨"LatePricesModel", "readShut", "()V"⟩, 38), (⟨"LatePricesModel", "readRule", "(I)V"⟩, 38), (⟨"LatePricesModel", "isPlace", "(I)Z"⟩, 38), (⟨"LatePricesModel", "news", "(III)I"⟩, 38), (⟨"LatePricesModel", "layNews", "(II)V"⟩, 38), (⟨"LatePricesModel", "leaves", "(III)I"⟩, 38), (⟨"LatePricesModel", "latest", "(III)I"⟩, 38), (⟨"LatePricesModel", "priceAt", "(II)I"⟩, 38)]
theorem lw_r3 : ∀ q ∈ lw_privs_3, lw_okq q := List.forall_mem_cons.mpr ⟨lw_p32, List.forall_mem_cons.mpr ⟨lw_p33, List.forall_mem_cons.mpr ⟨lw_p34, List.forall_mem_cons.mpr ⟨lw_p35, List.forall_mem_cons.mpr ⟨lw_p36, List.forall_mem_cons.mpr ⟨lw_p37, List.forall_mem_cons.mpr ⟨lw_p38, List.forall_mem_cons.mpr ⟨lw_p39, List.forall_mem_cons.mpr ⟨lw_p40, List.forall_mem_cons.mpr ⟨lw_p41, List.forall_mem_cons.mpr ⟨lw_p42, List.forall_mem_cons.mpr ⟨lw_p43, List.forall_mem_cons.mpr ⟨lw_p44, List.forall_mem_cons.mpr ⟨lw_p45, List.forall_mem_cons.mpr ⟨lw_p46, List.forall_mem_cons.mpr ⟨lw_p47, fun _ h => absurd h List.not_mem_nil⟩⟩⟩⟩⟩⟩⟩⟩⟩⟩⟩⟩⟩⟩⟩⟩
theorem lw_p48 : lw_okq (⟨"LatePricesModel", "addStep", "(III)V"⟩, 38) := ⟨⟨by decide +kernel, by decide +kernel⟩, List.mem_of_getElem? (i := 1014) (by decide +kernel), List.mem_of_getElem? (i := 1253) (by decide +kernel), List.mem_of_getElem? (i := 1254) (by decide +kernel)⟩
theorem lw_p49 : lw_okq (⟨"LatePricesModel", "isCall", "(I)Z"⟩, 38) := ⟨⟨by decide +kernel, by decide +kernel⟩, List.mem_of_getElem? (i := 1014) (by decide +kernel), List.mem_of_getElem? (i := 1275) (by decide +kernel), List.mem_of_getElem? (i := 1276) (by decide +kernel)⟩
theorem lw_p50 : lw_okq (⟨"LatePricesModel", "its", "(II)I"⟩, 38) := ⟨⟨by decide +kernel, by decide +kernel⟩, List.mem_of_getElem? (i := 1014) (by decide +kernel), List.mem_of_getElem? (i := 1279) (by decide +kernel), List.mem_of_getElem? (i := 1280) (by decide +kernel)⟩
theorem lw_p51 : lw_okq (⟨"LatePricesModel", "takenBack", "(I)I"⟩, 38) := ⟨⟨by decide +kernel, by decide +kernel⟩, List.mem_of_getElem? (i := 1014) (by decide +kernel), List.mem_of_getElem? (i := 1283) (by decide +kernel), List.mem_of_getElem? (i := 1284) (by decide +kernel)⟩
theorem lw_p52 : lw_okq (⟨"LatePricesModel", "ends", "(I)I"⟩, 38) := ⟨⟨by decide +kernel, by decide +kernel⟩, List.mem_of_getElem? (i := 1014) (by decide +kernel), List.mem_of_getElem? (i := 1292) (by decide +kernel), List.mem_of_getElem? (i := 1293) (by decide +kernel)⟩
theorem lw_p53 : lw_okq (⟨"LatePricesModel", "layStruck", "()V"⟩, 38) := ⟨⟨by decide +kernel, by decide +kernel⟩, List.mem_of_getElem? (i := 1014) (by decide +kernel), List.mem_of_getElem? (i := 1296) (by decide +kernel), List.mem_of_getElem? (i := 1297) (by decide +kernel)⟩
theorem lw_p54 : lw_okq (⟨"LatePricesModel", "deals", "()I"⟩, 38) := ⟨⟨by decide +kernel, by decide +kernel⟩, List.mem_of_getElem? (i := 1014) (by decide +kernel), List.mem_of_getElem? (i := 1300) (by decide +kernel), List.mem_of_getElem? (i := 1301) (by decide +kernel)⟩
theorem lw_p55 : lw_okq (⟨"LatePricesModel", "sent4", "(II)I"⟩, 38) := ⟨⟨by decide +kernel, by decide +kernel⟩, List.mem_of_getElem? (i := 1014) (by decide +kernel), List.mem_of_getElem? (i := 1304) (by decide +kernel), List.mem_of_getElem? (i := 1305) (by decide +kernel)⟩
theorem lw_p56 : lw_okq (⟨"LatePricesModel", "isAhead", "(II)Z"⟩, 38) := ⟨⟨by decide +kernel, by decide +kernel⟩, List.mem_of_getElem? (i := 1014) (by decide +kernel), List.mem_of_getElem? (i := 1308) (by decide +kernel), List.mem_of_getElem? (i := 1309) (by decide +kernel)⟩
theorem lw_p57 : lw_okq (⟨"LatePricesModel", "rank", "(I)I"⟩, 38) := ⟨⟨by decide +kernel, by decide +kernel⟩, List.mem_of_getElem? (i := 1014) (by decide +kernel), List.mem_of_getElem? (i := 1312) (by decide +kernel), List.mem_of_getElem? (i := 1313) (by decide +kernel)⟩
theorem lw_p58 : lw_okq (⟨"LatePricesModel", "standsIn", "(II)Z"⟩, 38) := ⟨⟨by decide +kernel, by decide +kernel⟩, List.mem_of_getElem? (i := 1014) (by decide +kernel), List.mem_of_getElem? (i := 1316) (by decide +kernel), List.mem_of_getElem? (i := 1317) (by decide +kernel)⟩
theorem lw_p59 : lw_okq (⟨"LatePricesModel", "seenBy", "(III)I"⟩, 38) := ⟨⟨by decide +kernel, by decide +kernel⟩, List.mem_of_getElem? (i := 1014) (by decide +kernel), List.mem_of_getElem? (i := 1328) (by decide +kernel), List.mem_of_getElem? (i := 1329) (by decide +kernel)⟩
theorem lw_p60 : lw_okq (⟨"LatePricesModel", "isDeal", "(I)Z"⟩, 38) := ⟨⟨by decide +kernel, by decide +kernel⟩, List.mem_of_getElem? (i := 1014) (by decide +kernel), List.mem_of_getElem? (i := 1340) (by decide +kernel), List.mem_of_getElem? (i := 1341) (by decide +kernel)⟩
theorem lw_p61 : lw_okq (⟨"LatePricesModel", "owed", "(II)I"⟩, 38) := ⟨⟨by decide +kernel, by decide +kernel⟩, List.mem_of_getElem? (i := 1014) (by decide +kernel), List.mem_of_getElem? (i := 1353) (by decide +kernel), List.mem_of_getElem? (i := 1354) (by decide +kernel)⟩
theorem lw_p62 : lw_okq (⟨"LatePricesModel", "pays", "(II)I"⟩, 38) := ⟨⟨by decide +kernel, by decide +kernel⟩, List.mem_of_getElem? (i := 1014) (by decide +kernel), List.mem_of_getElem? (i := 1357) (by decide +kernel), List.mem_of_getElem? (i := 1358) (by decide +kernel)⟩
theorem lw_p63 : lw_okq (⟨"LatePricesModel", "greatest", "(III)I"⟩, 38) := ⟨⟨by decide +kernel, by decide +kernel⟩, List.mem_of_getElem? (i := 1014) (by decide +kernel), List.mem_of_getElem? (i := 1361) (by decide +kernel), List.mem_of_getElem? (i := 1362) (by decide +kernel)⟩
def lw_privs_4 : List (MethodName × Nat) := [(⟨"LatePricesModel", "addStep", "(III)V"⟩, 38), (⟨"LatePricesModel", "isCall", "(I)Z"⟩, 38), (⟨"LatePricesModel", "its", "(II)I"⟩, 38), (⟨"LatePricesModel", "takenBack", "(I)I"⟩, 38), (⟨"LatePricesModel", "ends", "(I)I"⟩, 38), (⟨"LatePricesModel", "layStruck", "()V"⟩, 38), (⟨"LatePricesModel", "deals", "()I"⟩, 38), (⟨"LatePricesModel", "sent4", "(II)I"⟩, 38), (⟨"LatePricesModel", "isAhead", "(II)Z"⟩, 38), (⟨"LatePricesModel", "rank", "(I)I"⟩, 38), (⟨"LatePricesModel", "standsIn", "(II)Z"⟩, 38), (⟨"LatePricesModel", "seenBy", "(III)I"⟩, 38), (⟨"LatePricesModel", "isDeal", "(I)Z"⟩, 38), (⟨"LatePricesModel", "owed", "(II)I"⟩, 38), (⟨"LatePricesModel", "pays", "(II)I"⟩, 38), (⟨"LatePricesModel", "greatest", "(III)I"⟩, 38)]
theorem lw_r4 : ∀ q ∈ lw_privs_4, lw_okq q := List.forall_mem_cons.mpr ⟨lw_p48, List.forall_mem_cons.mpr ⟨lw_p49, List.forall_mem_cons.mpr ⟨lw_p50, List.forall_mem_cons.mpr ⟨lw_p51, List.forall_mem_cons.mpr ⟨lw_p52, List.forall_mem_cons.mpr ⟨lw_p53, List.forall_mem_cons.mpr ⟨lw_p54, List.forall_mem_cons.mpr ⟨lw_p55, List.forall_mem_cons.mpr ⟨lw_p56, List.forall_mem_cons.mpr ⟨lw_p57, List.forall_mem_cons.mpr ⟨lw_p58, List.forall_mem_cons.mpr ⟨lw_p59, List.forall_mem_cons.mpr ⟨lw_p60, List.forall_mem_cons.mpr ⟨lw_p61, List.forall_mem_cons.mpr ⟨lw_p62, List.forall_mem_cons.mpr ⟨lw_p63, fun _ h => absurd h List.not_mem_nil⟩⟩⟩⟩⟩⟩⟩⟩⟩⟩⟩⟩⟩⟩⟩⟩
theorem lw_p64 : lw_okq (⟨"LatePricesModel", "layGain", "(IIZ)V"⟩, 38) := ⟨⟨by decide +kernel, by decide +kernel⟩, List.mem_of_getElem? (i := 1014) (by decide +kernel), List.mem_of_getElem? (i := 1369) (by decide +kernel), List.mem_of_getElem? (i := 1370) (by decide +kernel)⟩
theorem lw_p65 : lw_okq (⟨"LatePricesModel", "isOffer", "(IIIZ)Z"⟩, 38) := ⟨⟨by decide +kernel, by decide +kernel⟩, List.mem_of_getElem? (i := 1014) (by decide +kernel), List.mem_of_getElem? (i := 1373) (by decide +kernel), List.mem_of_getElem? (i := 1374) (by decide +kernel)⟩
theorem lw_p66 : lw_okq (⟨"LatePricesModel", "bestOf", "(I)I"⟩, 38) := ⟨⟨by decide +kernel, by decide +kernel⟩, List.mem_of_getElem? (i := 1014) (by decide +kernel), List.mem_of_getElem? (i := 1377) (by decide +kernel), List.mem_of_getElem? (i := 1378) (by decide +kernel)⟩
theorem lw_p67 : lw_okq (⟨"LatePricesModel", "atMost", "(II)I"⟩, 38) := ⟨⟨by decide +kernel, by decide +kernel⟩, List.mem_of_getElem? (i := 1014) (by decide +kernel), List.mem_of_getElem? (i := 1390) (by decide +kernel), List.mem_of_getElem? (i := 1391) (by decide +kernel)⟩
theorem lw_p68 : lw_okq (⟨"LatePricesModel", "waitOf", "(II)I"⟩, 38) := ⟨⟨by decide +kernel, by decide +kernel⟩, List.mem_of_getElem? (i := 1014) (by decide +kernel), List.mem_of_getElem? (i := 1406) (by decide +kernel), List.mem_of_getElem? (i := 1407) (by decide +kernel)⟩
theorem lw_p69 : lw_okq (⟨"LatePricesModel", "layWalks", "(I)V"⟩, 38) := ⟨⟨by decide +kernel, by decide +kernel⟩, List.mem_of_getElem? (i := 1014) (by decide +kernel), List.mem_of_getElem? (i := 1425) (by decide +kernel), List.mem_of_getElem? (i := 1426) (by decide +kernel)⟩
theorem lw_p70 : lw_okq (⟨"LatePricesModel", "lossOf", "(II)J"⟩, 38) := ⟨⟨by decide +kernel, by decide +kernel⟩, List.mem_of_getElem? (i := 1014) (by decide +kernel), List.mem_of_getElem? (i := 1436) (by decide +kernel), List.mem_of_getElem? (i := 1437) (by decide +kernel)⟩
def lw_privs_5 : List (MethodName × Nat) := [(⟨"LatePricesModel", "layGain", "(IIZ)V"⟩, 38), (⟨"LatePricesModel", "isOffer", "(IIIZ)Z"⟩, 38), (⟨"LatePricesModel", "bestOf", "(I)I"⟩, 38), (⟨"LatePricesModel", "atMost", "(II)I"⟩, 38), (⟨"LatePricesModel", "waitOf", "(II)I"⟩, 38), (⟨"LatePricesModel", "layWalks", "(I)V"⟩, 38), (⟨"LatePricesModel", "lossOf", "(II)J"⟩, 38)]
theorem lw_r5 : ∀ q ∈ lw_privs_5, lw_okq q := List.forall_mem_cons.mpr ⟨lw_p64, List.forall_mem_cons.mpr ⟨lw_p65, List.forall_mem_cons.mpr ⟨lw_p66, List.forall_mem_cons.mpr ⟨lw_p67, List.forall_mem_cons.mpr ⟨lw_p68, List.forall_mem_cons.mpr ⟨lw_p69, List.forall_mem_cons.mpr ⟨lw_p70, fun _ h => absurd h List.not_mem_nil⟩⟩⟩⟩⟩⟩⟩
def lw_privs : List (MethodName × Nat) := lw_privs_1 ++ (lw_privs_2 ++ (lw_privs_3 ++ (lw_privs_4 ++ (lw_privs_5))))
def lw_tbl : List Cond := k2_sels lw_privs ++ tables_1
theorem lw_privs_ok : ∀ q ∈ lw_privs, lw_okq q := by
  show ∀ q ∈ lw_privs_1 ++ (lw_privs_2 ++ (lw_privs_3 ++ (lw_privs_4 ++ (lw_privs_5)))), lw_okq q
  exact List.forall_mem_append.mpr ⟨lw_r1, List.forall_mem_append.mpr ⟨lw_r2, List.forall_mem_append.mpr ⟨lw_r3, List.forall_mem_append.mpr ⟨lw_r4, lw_r5⟩⟩⟩⟩
-- ===== end of PART A; then your names; then what follows =====
end
section
theorem in_r {big : List Cond} (ws : List Cond) (ps : List Nat) (hp : ws = ps.filterMap (fun i => big[i]?)) : ∀ w ∈ ws, w ∈ big := by
  intro w hw
  rw [hp] at hw
  obtain ⟨i, -, hi⟩ := List.mem_filterMap.mp hw
  exact List.mem_of_getElem? hi
def RX0 : String := "LatePrices$Gains"
def TX0 : u_T := fun k => match k with
  | 0 => ("LatePrices$Gains", "news", "LLatePrices$News;", true)
  | 1 => ("LatePrices$Gains", "calls", "LLatePrices$Rows;", true)
  | 2 => ("LatePrices$Gains", "opens", "[I", true)
  | 3 => ("LatePrices$Gains", "closes", "[I", true)
  | 4 => ("LatePrices$Gains", "left", "[I", true)
  | 5 => ("LatePrices$Gains", "brings", "I", false)
  | _ => ("LatePrices$Gains", "units", "I", false)
def tyX0 : Nat → FieldType := fun k => match k with
  | 0 => .object "LatePrices$News"
  | 1 => .object "LatePrices$Rows"
  | 2 => .array .int
  | 3 => .array .int
  | 4 => .array .int
  | 5 => .int
  | _ => .int
theorem nmX0 : ∀ a, a < 7 → ∀ b, b < 7 → a ≠ b → (TX0 a).2.1 ≠ (TX0 b).2.1 := by decide +kernel
theorem tyX0_ok : ∀ k, k < 7 → parseFieldDescriptor (TX0 k).2.2.1 = some (tyX0 k) := by decide +kernel
theorem uin_0 : ∀ w ∈ u_ws RX0 TX0 7, w ∈ lw_tbl := in_r _ [372, 374, 376, 378, 380, 382, 384] (by decide +kernel)
theorem uns_0 : Cond.instantiable RX0 7 ∈ lw_tbl := List.mem_of_getElem? (i := 358) (by decide +kernel)
theorem uni_0 : Cond.initialized RX0 ∈ lw_tbl := List.mem_of_getElem? (i := 82) (by decide +kernel)
def RX1 : String := "LatePrices$Ledger"
def TX1 : u_T := fun k => match k with
  | 0 => ("LatePrices$Ledger", "plan", "LLatePrices$Plan;", true)
  | 1 => ("LatePrices$Ledger", "steps", "LLatePrices$Rows;", true)
  | 2 => ("LatePrices$Ledger", "calls", "LLatePrices$Rows;", true)
  | 3 => ("LatePrices$Ledger", "deals", "LLatePrices$Rows;", true)
  | _ => ("LatePrices$Ledger", "kept", "Z", false)
def tyX1 : Nat → FieldType := fun k => match k with
  | 0 => .object "LatePrices$Plan"
  | 1 => .object "LatePrices$Rows"
  | 2 => .object "LatePrices$Rows"
  | 3 => .object "LatePrices$Rows"
  | _ => .boolean
theorem nmX1 : ∀ a, a < 5 → ∀ b, b < 5 → a ≠ b → (TX1 a).2.1 ≠ (TX1 b).2.1 := by decide +kernel
theorem tyX1_ok : ∀ k, k < 5 → parseFieldDescriptor (TX1 k).2.2.1 = some (tyX1 k) := by decide +kernel
theorem uin_1 : ∀ w ∈ u_ws RX1 TX1 5, w ∈ lw_tbl := in_r _ [299, 301, 303, 305, 307] (by decide +kernel)
theorem uns_1 : Cond.instantiable RX1 5 ∈ lw_tbl := List.mem_of_getElem? (i := 257) (by decide +kernel)
theorem uni_1 : Cond.initialized RX1 ∈ lw_tbl := List.mem_of_getElem? (i := 78) (by decide +kernel)
def RX2 : String := "LatePrices$News"
def TX2 : u_T := fun k => match k with
  | 0 => ("LatePrices$News", "plan", "LLatePrices$Plan;", true)
  | 1 => ("LatePrices$News", "arrives", "[I", true)
  | _ => ("LatePrices$News", "leaves", "[I", true)
def tyX2 : Nat → FieldType := fun k => match k with
  | 0 => .object "LatePrices$Plan"
  | 1 => .array .int
  | _ => .array .int
theorem nmX2 : ∀ a, a < 3 → ∀ b, b < 3 → a ≠ b → (TX2 a).2.1 ≠ (TX2 b).2.1 := by decide +kernel
theorem tyX2_ok : ∀ k, k < 3 → parseFieldDescriptor (TX2 k).2.2.1 = some (tyX2 k) := by decide +kernel
theorem uin_2 : ∀ w ∈ u_ws RX2 TX2 3, w ∈ lw_tbl := in_r _ [249, 251, 253] (by decide +kernel)
theorem uns_2 : Cond.instantiable RX2 3 ∈ lw_tbl := List.mem_of_getElem? (i := 238) (by decide +kernel)
theorem uni_2 : Cond.initialized RX2 ∈ lw_tbl := List.mem_of_getElem? (i := 77) (by decide +kernel)
def RX3 : String := "LatePrices$Plan"
def TX3 : u_T := fun k => match k with
  | 0 => ("LatePrices$Plan", "prices", "[I", true)
  | 1 => ("LatePrices$Plan", "minutes", "[I", true)
  | 2 => ("LatePrices$Plan", "shutWay", "[I", true)
  | 3 => ("LatePrices$Plan", "shutFrom", "[I", true)
  | 4 => ("LatePrices$Plan", "shutTo", "[I", true)
  | 5 => ("LatePrices$Plan", "moves", "[I", true)
  | 6 => ("LatePrices$Plan", "places", "I", false)
  | 7 => ("LatePrices$Plan", "ways", "I", false)
  | 8 => ("LatePrices$Plan", "shuts", "I", false)
  | 9 => ("LatePrices$Plan", "rule", "I", false)
  | _ => ("LatePrices$Plan", "most", "I", false)
def tyX3 : Nat → FieldType := fun k => match k with
  | 0 => .array .int
  | 1 => .array .int
  | 2 => .array .int
  | 3 => .array .int
  | 4 => .array .int
  | 5 => .array .int
  | 6 => .int
  | 7 => .int
  | 8 => .int
  | 9 => .int
  | _ => .int
theorem nmX3 : ∀ a, a < 11 → ∀ b, b < 11 → a ≠ b → (TX3 a).2.1 ≠ (TX3 b).2.1 := by decide +kernel
theorem tyX3_ok : ∀ k, k < 11 → parseFieldDescriptor (TX3 k).2.2.1 = some (tyX3 k) := by decide +kernel
theorem uin_3 : ∀ w ∈ u_ws RX3 TX3 11, w ∈ lw_tbl := in_r _ [183, 185, 187, 189, 191, 193, 195, 197, 199, 201, 203] (by decide +kernel)
theorem uns_3 : Cond.instantiable RX3 11 ∈ lw_tbl := List.mem_of_getElem? (i := 132) (by decide +kernel)
theorem uni_3 : Cond.initialized RX3 ∈ lw_tbl := List.mem_of_getElem? (i := 74) (by decide +kernel)
def RX4 : String := "LatePrices$Reader"
def TX4 : u_T := fun k => match k with
  | 0 => ("LatePrices$Reader", "tape", "LLatePrices$Tape;", true)
  | 1 => ("LatePrices$Reader", "draft", "LLatePrices$Plan;", true)
  | 2 => ("LatePrices$Reader", "fault", "I", false)
  | 3 => ("LatePrices$Reader", "faultPlace", "I", false)
  | 4 => ("LatePrices$Reader", "movesTold", "Z", false)
  | 5 => ("LatePrices$Reader", "firstTold", "Z", false)
  | _ => ("LatePrices$Reader", "mostTold", "Z", false)
def tyX4 : Nat → FieldType := fun k => match k with
  | 0 => .object "LatePrices$Tape"
  | 1 => .object "LatePrices$Plan"
  | 2 => .int
  | 3 => .int
  | 4 => .boolean
  | 5 => .boolean
  | _ => .boolean
theorem nmX4 : ∀ a, a < 7 → ∀ b, b < 7 → a ≠ b → (TX4 a).2.1 ≠ (TX4 b).2.1 := by decide +kernel
theorem tyX4_ok : ∀ k, k < 7 → parseFieldDescriptor (TX4 k).2.2.1 = some (tyX4 k) := by decide +kernel
theorem uin_4 : ∀ w ∈ u_ws RX4 TX4 7, w ∈ lw_tbl := in_r _ [222, 224, 226, 228, 230, 232, 234] (by decide +kernel)
theorem uns_4 : Cond.instantiable RX4 7 ∈ lw_tbl := List.mem_of_getElem? (i := 208) (by decide +kernel)
theorem uni_4 : Cond.initialized RX4 ∈ lw_tbl := List.mem_of_getElem? (i := 76) (by decide +kernel)
def RX5 : String := "LatePrices$Rows"
def TX5 : u_T := fun k => match k with
  | 0 => ("LatePrices$Rows", "most", "I", true)
  | 1 => ("LatePrices$Rows", "width", "I", true)
  | 2 => ("LatePrices$Rows", "cells", "[I", true)
  | _ => ("LatePrices$Rows", "size", "I", false)
def tyX5 : Nat → FieldType := fun k => match k with
  | 0 => .int
  | 1 => .int
  | 2 => .array .int
  | _ => .int
theorem nmX5 : ∀ a, a < 4 → ∀ b, b < 4 → a ≠ b → (TX5 a).2.1 ≠ (TX5 b).2.1 := by decide +kernel
theorem tyX5_ok : ∀ k, k < 4 → parseFieldDescriptor (TX5 k).2.2.1 = some (tyX5 k) := by decide +kernel
theorem uin_5 : ∀ w ∈ u_ws RX5 TX5 4, w ∈ lw_tbl := in_r _ [279, 281, 283, 285] (by decide +kernel)
theorem uns_5 : Cond.instantiable RX5 4 ∈ lw_tbl := List.mem_of_getElem? (i := 263) (by decide +kernel)
theorem uni_5 : Cond.initialized RX5 ∈ lw_tbl := List.mem_of_getElem? (i := 79) (by decide +kernel)
def RX6 : String := "LatePrices$Sheet"
def TX6 : u_T := fun k => match k with
  | 0 => ("LatePrices$Sheet", "cells", "[I", true)
  | 1 => ("LatePrices$Sheet", "lane", "I", false)
  | _ => ("LatePrices$Sheet", "size", "I", false)
def tyX6 : Nat → FieldType := fun k => match k with
  | 0 => .array .int
  | 1 => .int
  | _ => .int
theorem nmX6 : ∀ a, a < 3 → ∀ b, b < 3 → a ≠ b → (TX6 a).2.1 ≠ (TX6 b).2.1 := by decide +kernel
theorem tyX6_ok : ∀ k, k < 3 → parseFieldDescriptor (TX6 k).2.2.1 = some (tyX6 k) := by decide +kernel
theorem uin_6 : ∀ w ∈ u_ws RX6 TX6 3, w ∈ lw_tbl := in_r _ [433, 435, 437] (by decide +kernel)
theorem uns_6 : Cond.instantiable RX6 3 ∈ lw_tbl := List.mem_of_getElem? (i := 424) (by decide +kernel)
theorem uni_6 : Cond.initialized RX6 ∈ lw_tbl := List.mem_of_getElem? (i := 85) (by decide +kernel)
def RX7 : String := "LatePrices$Strikes"
def TX7 : u_T := fun k => match k with
  | 0 => ("LatePrices$Strikes", "plan", "LLatePrices$Plan;", true)
  | 1 => ("LatePrices$Strikes", "news", "LLatePrices$News;", true)
  | 2 => ("LatePrices$Strikes", "calls", "LLatePrices$Rows;", true)
  | 3 => ("LatePrices$Strikes", "deals", "LLatePrices$Rows;", true)
  | 4 => ("LatePrices$Strikes", "ledger", "LLatePrices$Ledger;", true)
  | 5 => ("LatePrices$Strikes", "order", "[I", true)
  | 6 => ("LatePrices$Strikes", "taken", "[I", true)
  | 7 => ("LatePrices$Strikes", "pays", "[I", true)
  | 8 => ("LatePrices$Strikes", "left", "[I", true)
  | 9 => ("LatePrices$Strikes", "last", "[I", true)
  | 10 => ("LatePrices$Strikes", "fullAt", "[I", true)
  | _ => ("LatePrices$Strikes", "excess", "I", false)
def tyX7 : Nat → FieldType := fun k => match k with
  | 0 => .object "LatePrices$Plan"
  | 1 => .object "LatePrices$News"
  | 2 => .object "LatePrices$Rows"
  | 3 => .object "LatePrices$Rows"
  | 4 => .object "LatePrices$Ledger"
  | 5 => .array .int
  | 6 => .array .int
  | 7 => .array .int
  | 8 => .array .int
  | 9 => .array .int
  | 10 => .array .int
  | _ => .int
theorem nmX7 : ∀ a, a < 12 → ∀ b, b < 12 → a ≠ b → (TX7 a).2.1 ≠ (TX7 b).2.1 := by decide +kernel
theorem tyX7_ok : ∀ k, k < 12 → parseFieldDescriptor (TX7 k).2.2.1 = some (tyX7 k) := by decide +kernel
theorem uin_7 : ∀ w ∈ u_ws RX7 TX7 12, w ∈ lw_tbl := in_r _ [332, 334, 336, 338, 340, 342, 344, 346, 348, 350, 352, 354] (by decide +kernel)
theorem uns_7 : Cond.instantiable RX7 12 ∈ lw_tbl := List.mem_of_getElem? (i := 312) (by decide +kernel)
theorem uni_7 : Cond.initialized RX7 ∈ lw_tbl := List.mem_of_getElem? (i := 81) (by decide +kernel)
def RX8 : String := "LatePrices$Tape"
def TX8 : u_T := fun k => match k with
  | 0 => ("LatePrices$Tape", "bytes", "[B", true)
  | 1 => ("LatePrices$Tape", "length", "I", false)
  | 2 => ("LatePrices$Tape", "next", "I", false)
  | 3 => ("LatePrices$Tape", "kind", "I", false)
  | 4 => ("LatePrices$Tape", "start", "I", false)
  | _ => ("LatePrices$Tape", "value", "I", false)
def tyX8 : Nat → FieldType := fun k => match k with
  | 0 => .array .byte
  | 1 => .int
  | 2 => .int
  | 3 => .int
  | 4 => .int
  | _ => .int
theorem nmX8 : ∀ a, a < 6 → ∀ b, b < 6 → a ≠ b → (TX8 a).2.1 ≠ (TX8 b).2.1 := by decide +kernel
theorem tyX8_ok : ∀ k, k < 6 → parseFieldDescriptor (TX8 k).2.2.1 = some (tyX8 k) := by decide +kernel
theorem uin_8 : ∀ w ∈ u_ws RX8 TX8 6, w ∈ lw_tbl := in_r _ [117, 119, 121, 123, 125, 127] (by decide +kernel)
theorem uns_8 : Cond.instantiable RX8 6 ∈ lw_tbl := List.mem_of_getElem? (i := 101) (by decide +kernel)
theorem uni_8 : Cond.initialized RX8 ∈ lw_tbl := List.mem_of_getElem? (i := 73) (by decide +kernel)
def RX9 : String := "LatePrices$Waits"
def TX9 : u_T := fun k => match k with
  | 0 => ("LatePrices$Waits", "plan", "LLatePrices$Plan;", true)
  | 1 => ("LatePrices$Waits", "news", "LLatePrices$News;", true)
  | _ => ("LatePrices$Waits", "longest", "[I", true)
def tyX9 : Nat → FieldType := fun k => match k with
  | 0 => .object "LatePrices$Plan"
  | 1 => .object "LatePrices$News"
  | _ => .array .int
theorem nmX9 : ∀ a, a < 3 → ∀ b, b < 3 → a ≠ b → (TX9 a).2.1 ≠ (TX9 b).2.1 := by decide +kernel
theorem tyX9_ok : ∀ k, k < 3 → parseFieldDescriptor (TX9 k).2.2.1 = some (tyX9 k) := by decide +kernel
theorem uin_9 : ∀ w ∈ u_ws RX9 TX9 3, w ∈ lw_tbl := in_r _ [397, 399, 401] (by decide +kernel)
theorem uns_9 : Cond.instantiable RX9 3 ∈ lw_tbl := List.mem_of_getElem? (i := 388) (by decide +kernel)
theorem uni_9 : Cond.initialized RX9 ∈ lw_tbl := List.mem_of_getElem? (i := 83) (by decide +kernel)
def RX10 : String := "LatePrices$Worth"
def TX10 : u_T := fun k => match k with
  | 0 => ("LatePrices$Worth", "plan", "LLatePrices$Plan;", true)
  | 1 => ("LatePrices$Worth", "counts", "[J", true)
  | _ => ("LatePrices$Worth", "before", "[J", true)
def tyX10 : Nat → FieldType := fun k => match k with
  | 0 => .object "LatePrices$Plan"
  | 1 => .array .long
  | _ => .array .long
theorem nmX10 : ∀ a, a < 3 → ∀ b, b < 3 → a ≠ b → (TX10 a).2.1 ≠ (TX10 b).2.1 := by decide +kernel
theorem tyX10_ok : ∀ k, k < 3 → parseFieldDescriptor (TX10 k).2.2.1 = some (tyX10 k) := by decide +kernel
theorem uin_10 : ∀ w ∈ u_ws RX10 TX10 3, w ∈ lw_tbl := in_r _ [414, 416, 418] (by decide +kernel)
theorem uns_10 : Cond.instantiable RX10 3 ∈ lw_tbl := List.mem_of_getElem? (i := 405) (by decide +kernel)
theorem uni_10 : Cond.initialized RX10 ∈ lw_tbl := List.mem_of_getElem? (i := 84) (by decide +kernel)
def RX11 : String := "LatePrices"
def TX11 : u_T := fun k => match k with
  | 0 => ("LatePrices", "tape", "LLatePrices$Tape;", true)
  | 1 => ("LatePrices", "plan", "LLatePrices$Plan;", true)
  | 2 => ("LatePrices", "draft", "LLatePrices$Plan;", true)
  | 3 => ("LatePrices", "reader", "LLatePrices$Reader;", true)
  | 4 => ("LatePrices", "news", "LLatePrices$News;", true)
  | 5 => ("LatePrices", "ledger", "LLatePrices$Ledger;", true)
  | 6 => ("LatePrices", "images", "[LLatePrices$Ledger;", true)
  | 7 => ("LatePrices", "strikes", "LLatePrices$Strikes;", true)
  | 8 => ("LatePrices", "gains", "LLatePrices$Gains;", true)
  | 9 => ("LatePrices", "waiting", "LLatePrices$Waits;", true)
  | 10 => ("LatePrices", "worth", "LLatePrices$Worth;", true)
  | 11 => ("LatePrices", "sheets", "[LLatePrices$Sheet;", true)
  | 12 => ("LatePrices", "fault", "I", false)
  | _ => ("LatePrices", "torn", "I", false)
def tyX11 : Nat → FieldType := fun k => match k with
  | 0 => .object "LatePrices$Tape"
  | 1 => .object "LatePrices$Plan"
  | 2 => .object "LatePrices$Plan"
  | 3 => .object "LatePrices$Reader"
  | 4 => .object "LatePrices$News"
  | 5 => .object "LatePrices$Ledger"
  | 6 => .array (.object "LatePrices$Ledger")
  | 7 => .object "LatePrices$Strikes"
  | 8 => .object "LatePrices$Gains"
  | 9 => .object "LatePrices$Waits"
  | 10 => .object "LatePrices$Worth"
  | 11 => .array (.object "LatePrices$Sheet")
  | 12 => .int
  | _ => .int
theorem nmX11 : ∀ a, a < 14 → ∀ b, b < 14 → a ≠ b → (TX11 a).2.1 ≠ (TX11 b).2.1 := by decide +kernel
theorem tyX11_ok : ∀ k, k < 14 → parseFieldDescriptor (TX11 k).2.2.1 = some (tyX11 k) := by decide +kernel
theorem uin_11 : ∀ w ∈ u_ws RX11 TX11 14, w ∈ lw_tbl := in_r _ [454, 456, 458, 460, 462, 464, 466, 468, 470, 472, 474, 476, 478, 480] (by decide +kernel)
theorem uns_11 : Cond.instantiable RX11 14 ∈ lw_tbl := List.mem_of_getElem? (i := 93) (by decide +kernel)
theorem uni_11 : Cond.initialized RX11 ∈ lw_tbl := List.mem_of_getElem? (i := 72) (by decide +kernel)
def RX12 : String := "LatePricesModel"
def TX12 : u_T := fun k => match k with
  | 0 => ("LatePricesModel", "tape", "[I", true)
  | 1 => ("LatePricesModel", "taped", "I", false)
  | 2 => ("LatePricesModel", "fault", "I", false)
  | 3 => ("LatePricesModel", "wrong", "I", false)
  | 4 => ("LatePricesModel", "wrongAt", "I", false)
  | 5 => ("LatePricesModel", "spot", "I", false)
  | 6 => ("LatePricesModel", "place", "I", false)
  | 7 => ("LatePricesModel", "token", "I", false)
  | 8 => ("LatePricesModel", "value", "I", false)
  | 9 => ("LatePricesModel", "cuts", "[I", true)
  | 10 => ("LatePricesModel", "letters", "[I", true)
  | 11 => ("LatePricesModel", "plain", "[I", true)
  | 12 => ("LatePricesModel", "rules", "[I", true)
  | 13 => ("LatePricesModel", "prices", "[I", true)
  | 14 => ("LatePricesModel", "ways", "[I", true)
  | 15 => ("LatePricesModel", "shuts", "[I", true)
  | 16 => ("LatePricesModel", "readRules", "[I", true)
  | 17 => ("LatePricesModel", "readPrices", "[I", true)
  | 18 => ("LatePricesModel", "readWays", "[I", true)
  | 19 => ("LatePricesModel", "readShuts", "[I", true)
  | 20 => ("LatePricesModel", "toldOnes", "I", false)
  | 21 => ("LatePricesModel", "comesTo", "[I", true)
  | 22 => ("LatePricesModel", "state", "[I", true)
  | 23 => ("LatePricesModel", "arrives", "[I", true)
  | 24 => ("LatePricesModel", "struck", "[I", true)
  | 25 => ("LatePricesModel", "isGone", "[Z", true)
  | 26 => ("LatePricesModel", "isOut", "[Z", true)
  | 27 => ("LatePricesModel", "offers", "[I", true)
  | 28 => ("LatePricesModel", "gained", "I", false)
  | 29 => ("LatePricesModel", "gainedUnits", "I", false)
  | 30 => ("LatePricesModel", "walks", "[J", true)
  | 31 => ("LatePricesModel", "walksThen", "[J", true)
  | 32 => ("LatePricesModel", "allWalks", "J", false)
  | 33 => ("LatePricesModel", "isKept", "[Z", true)
  | 34 => ("LatePricesModel", "lanes", "[I", true)
  | 35 => ("LatePricesModel", "lengths", "[I", true)
  | 36 => ("LatePricesModel", "cells", "[I", true)
  | _ => ("LatePricesModel", "torn", "I", false)
def tyX12 : Nat → FieldType := fun k => match k with
  | 0 => .array .int
  | 1 => .int
  | 2 => .int
  | 3 => .int
  | 4 => .int
  | 5 => .int
  | 6 => .int
  | 7 => .int
  | 8 => .int
  | 9 => .array .int
  | 10 => .array .int
  | 11 => .array .int
  | 12 => .array .int
  | 13 => .array .int
  | 14 => .array .int
  | 15 => .array .int
  | 16 => .array .int
  | 17 => .array .int
  | 18 => .array .int
  | 19 => .array .int
  | 20 => .int
  | 21 => .array .int
  | 22 => .array .int
  | 23 => .array .int
  | 24 => .array .int
  | 25 => .array .boolean
  | 26 => .array .boolean
  | 27 => .array .int
  | 28 => .int
  | 29 => .int
  | 30 => .array .long
  | 31 => .array .long
  | 32 => .long
  | 33 => .array .boolean
  | 34 => .array .int
  | 35 => .array .int
  | 36 => .array .int
  | _ => .int
theorem nmX12 : ∀ a, a < 38 → ∀ b, b < 38 → a ≠ b → (TX12 a).2.1 ≠ (TX12 b).2.1 := by decide +kernel
theorem tyX12_ok : ∀ k, k < 38 → parseFieldDescriptor (TX12 k).2.2.1 = some (tyX12 k) := by decide +kernel
theorem uin_12 : ∀ w ∈ u_ws RX12 TX12 38, w ∈ lw_tbl := in_r _ [1128, 1130, 1132, 1134, 1136, 1138, 1140, 1142, 1144, 1146, 1148, 1150, 1152, 1154, 1156, 1158, 1160, 1162, 1164, 1166, 1168, 1170, 1172, 1174, 1176, 1178, 1180, 1182, 1184, 1186, 1188, 1190, 1192, 1194, 1196, 1198, 1200, 1202] (by decide +kernel)
theorem uns_12 : Cond.instantiable RX12 38 ∈ lw_tbl := List.mem_of_getElem? (i := 1085) (by decide +kernel)
theorem uni_12 : Cond.initialized RX12 ∈ lw_tbl := List.mem_of_getElem? (i := 86) (by decide +kernel)
abbrev CLS : List vw_C := [(RX0, TX0, 7), (RX1, TX1, 5), (RX2, TX2, 3), (RX3, TX3, 11), (RX4, TX4, 7), (RX5, TX5, 4), (RX6, TX6, 3), (RX7, TX7, 12), (RX8, TX8, 6), (RX9, TX9, 3), (RX10, TX10, 3), (RX11, TX11, 14), (RX12, TX12, 38)]
def tyOf (c : Nat) : Nat → FieldType := match c with
  | 0 => tyX0
  | 1 => tyX1
  | 2 => tyX2
  | 3 => tyX3
  | 4 => tyX4
  | 5 => tyX5
  | 6 => tyX6
  | 7 => tyX7
  | 8 => tyX8
  | 9 => tyX9
  | 10 => tyX10
  | 11 => tyX11
  | _ => tyX12
theorem u_in {ci : Nat} {q : vw_C} (h : CLS[ci]? = some q) : ∀ w ∈ u_ws q.1 q.2.1 q.2.2, w ∈ lw_tbl := by
  match ci, h with
  | 0, h => cases h; exact uin_0
  | 1, h => cases h; exact uin_1
  | 2, h => cases h; exact uin_2
  | 3, h => cases h; exact uin_3
  | 4, h => cases h; exact uin_4
  | 5, h => cases h; exact uin_5
  | 6, h => cases h; exact uin_6
  | 7, h => cases h; exact uin_7
  | 8, h => cases h; exact uin_8
  | 9, h => cases h; exact uin_9
  | 10, h => cases h; exact uin_10
  | 11, h => cases h; exact uin_11
  | 12, h => cases h; exact uin_12
  | n + 13, h => simp [CLS] at h
theorem u_nm {ci : Nat} {q : vw_C} (h : CLS[ci]? = some q) : ∀ a, a < q.2.2 → ∀ b, b < q.2.2 → a ≠ b → (q.2.1 a).2.1 ≠ (q.2.1 b).2.1 := by
  match ci, h with
  | 0, h => cases h; exact nmX0
  | 1, h => cases h; exact nmX1
  | 2, h => cases h; exact nmX2
  | 3, h => cases h; exact nmX3
  | 4, h => cases h; exact nmX4
  | 5, h => cases h; exact nmX5
  | 6, h => cases h; exact nmX6
  | 7, h => cases h; exact nmX7
  | 8, h => cases h; exact nmX8
  | 9, h => cases h; exact nmX9
  | 10, h => cases h; exact nmX10
  | 11, h => cases h; exact nmX11
  | 12, h => cases h; exact nmX12
  | n + 13, h => simp [CLS] at h
theorem u_ty {ci : Nat} {q : vw_C} (h : CLS[ci]? = some q) : ∀ k, k < q.2.2 → parseFieldDescriptor (q.2.1 k).2.2.1 = some (tyOf ci k) := by
  match ci, h with
  | 0, h => cases h; exact tyX0_ok
  | 1, h => cases h; exact tyX1_ok
  | 2, h => cases h; exact tyX2_ok
  | 3, h => cases h; exact tyX3_ok
  | 4, h => cases h; exact tyX4_ok
  | 5, h => cases h; exact tyX5_ok
  | 6, h => cases h; exact tyX6_ok
  | 7, h => cases h; exact tyX7_ok
  | 8, h => cases h; exact tyX8_ok
  | 9, h => cases h; exact tyX9_ok
  | 10, h => cases h; exact tyX10_ok
  | 11, h => cases h; exact tyX11_ok
  | 12, h => cases h; exact tyX12_ok
  | n + 13, h => simp [CLS] at h
theorem u_ns {ci : Nat} {q : vw_C} (h : CLS[ci]? = some q) : Cond.instantiable q.1 q.2.2 ∈ lw_tbl := by
  match ci, h with
  | 0, h => cases h; exact uns_0
  | 1, h => cases h; exact uns_1
  | 2, h => cases h; exact uns_2
  | 3, h => cases h; exact uns_3
  | 4, h => cases h; exact uns_4
  | 5, h => cases h; exact uns_5
  | 6, h => cases h; exact uns_6
  | 7, h => cases h; exact uns_7
  | 8, h => cases h; exact uns_8
  | 9, h => cases h; exact uns_9
  | 10, h => cases h; exact uns_10
  | 11, h => cases h; exact uns_11
  | 12, h => cases h; exact uns_12
  | n + 13, h => simp [CLS] at h
theorem u_ni {ci : Nat} {q : vw_C} (h : CLS[ci]? = some q) : Cond.initialized q.1 ∈ lw_tbl := by
  match ci, h with
  | 0, h => cases h; exact uni_0
  | 1, h => cases h; exact uni_1
  | 2, h => cases h; exact uni_2
  | 3, h => cases h; exact uni_3
  | 4, h => cases h; exact uni_4
  | 5, h => cases h; exact uni_5
  | 6, h => cases h; exact uni_6
  | 7, h => cases h; exact uni_7
  | 8, h => cases h; exact uni_8
  | 9, h => cases h; exact uni_9
  | 10, h => cases h; exact uni_10
  | 11, h => cases h; exact uni_11
  | 12, h => cases h; exact uni_12
  | n + 13, h => simp [CLS] at h
end
section
/-! THE ABSTRACT HEAP: a shape (arrays and objects by number) and what its int and long places hold -/
def gtb : List Cond := lw_tbl.filter goodWord
abbrev aC : Type := (Nat × Nat × List Nat) ⊕ (Nat × List Nat)
abbrev aH : Type := List aC × (Nat → Nat → Int32) × (Nat → Nat → Int64)
/-- the machine's side: class numbers, array classes, the first address, special values -/
abbrev aG : Type := va_G × (Nat → ClassId) × Nat × (Nat → Value)
/-- the run: the launch, the script's length and ints -/
abbrev aE : Type := Launch × Nat × (Nat → Int32)
/-- a method: name, code, locals, what it returns, kind of answer (0 none, 1 int, 2 long), parameters, room -/
abbrev aM : Type := MethodName × ByteArray × Nat × Option FieldType × Nat × Nat × Room
abbrev M_y (μ : aM) : MethodName := μ.1
abbrev M_c (μ : aM) : ByteArray := μ.2.1
abbrev M_L (μ : aM) : Nat := μ.2.2.1
abbrev M_r (μ : aM) : Option FieldType := μ.2.2.2.1
abbrev M_k (μ : aM) : Nat := μ.2.2.2.2.1
abbrev M_n (μ : aM) : Nat := μ.2.2.2.2.2.1
abbrev M_R (μ : aM) : Room := μ.2.2.2.2.2.2
abbrev g_b (g : aG) : Nat := g.2.2.1
abbrev aA (g : aG) : Nat → Prop := fun q => g.2.2.1 ≤ q
def cv (g : aG) (v : Value) : Value := match v with
  | .ref a => .ref (g.2.2.1 + a)
  | .float j => g.2.2.2 j.toNat
  | v => v
def cfv (g : aG) (h : aH) (k j code : Nat) : Value := match code with
  | 0 => .int (h.2.1 k j)
  | 1 => .long (h.2.2 k j)
  | 2 => .null
  | a + 3 => .ref (g.2.2.1 + a)
def cfs (g : aG) (h : aH) (k : Nat) (fs : List Nat) : List Value := fs.mapIdx (fun j c => cfv g h k j c)
def crv (g : aG) (c : Nat) : Option Nat := match c with
  | a + 3 => some (g.2.2.1 + a)
  | _ => none
def crf (g : aG) (rs : List Nat) : Nat → Option Nat := fun i => crv g (rs.getD i 2)
def ccell (g : aG) (h : aH) (k : Nat) (c : aC) : va_E := match c with
  | .inr (ci, fs) => .inr (ci, cfs g h k fs)
  | .inl (t, n, rs) => .inl (g.2.1 t, n, if t < 3 then .inl (h.2.1 k) else if t = 3 then .inr (.inl (h.2.2 k)) else .inr (.inr (.inr (.inr (crf g rs)))))
def cw (g : aG) (h : aH) : va_W := h.1.mapIdx (fun k c => (g.2.2.1 + k, ccell g h k c))
def aT (g : aG) : List (ClassId × FieldType) := [(g.2.1 0, .int), (g.2.1 1, .byte), (g.2.1 2, .boolean), (g.2.1 3, .long), (g.2.1 4, .object "LatePrices$Ledger"), (g.2.1 5, .object "LatePrices$Sheet")]
theorem cw_at {g : aG} {h : aH} {k : Nat} {c : aC} (hs : h.1[k]? = some c) : (cw g h)[k]? = some (g.2.2.1 + k, ccell g h k c) := by
  simp [cw, List.getElem?_mapIdx, hs]
theorem cw_D (g : aG) (h : aH) : va_D (aA g) (cw g h) := by
  refine ⟨fun i j p q hp hq e => ?_, fun k q hq => ?_⟩
  · simp only [cw, List.getElem?_mapIdx, Option.map_eq_some_iff] at hp hq
    obtain ⟨a, -, rfl⟩ := hp
    obtain ⟨b, -, rfl⟩ := hq
    simp only at e
    omega
  · simp only [cw, List.getElem?_mapIdx, Option.map_eq_some_iff] at hq
    obtain ⟨a, -, rfl⟩ := hq
    exact Nat.le_add_right _ _
theorem cfs_at {g : aG} {h : aH} {k j c : Nat} {fs : List Nat} (hf : fs[j]? = some c) : (cfs g h k fs)[j]? = some (cfv g h k j c) := by
  simp [cfs, List.getElem?_mapIdx, hf]
theorem cfs_len {g : aG} {h : aH} {k : Nat} {fs : List Nat} : (cfs g h k fs).length = fs.length := by simp [cfs]
/-- writing an int place -/
def hI (h : aH) (a i : Nat) (v : Int32) : aH := (h.1, fun b => if b = a then upd (h.2.1 a) i v else h.2.1 b, h.2.2)
def hJ (h : aH) (a i : Nat) (v : Int64) : aH := (h.1, h.2.1, fun b => if b = a then vp_updL (h.2.2 a) i v else h.2.2 b)
/-- copying so many places of one array over another's -/
def hCI (h : aH) (a b sp dp n : Nat) : aH := (h.1, fun q => if q = b then va_cpy (h.2.1 a) (h.2.1 b) sp dp n else h.2.1 q, h.2.2)
def hCJ (h : aH) (a b sp dp n : Nat) : aH := (h.1, h.2.1, fun q => if q = b then va_cpy (h.2.2 a) (h.2.2 b) sp dp n else h.2.2 q)
/-- a new cell, all 0 -/
def hN (h : aH) (c : aC) : aH := (h.1 ++ [c], fun b => if b = h.1.length then fun _ => 0 else h.2.1 b, fun b => if b = h.1.length then fun _ => 0 else h.2.2 b)
/-- a reference put into a field or an array -/
def hR (h : aH) (a j code : Nat) : aH := (h.1.modify a (fun c => match c with
  | .inr (ci, fs) => .inr (ci, fs.set j code)
  | .inl (t, n, rs) => .inl (t, n, rs.set j code)), h.2)
theorem ccell_other {g : aG} {h h' : aH} {k : Nat} (e1 : h'.2.1 k = h.2.1 k) (e2 : h'.2.2 k = h.2.2 k) (c : aC) : ccell g h' k c = ccell g h k c := by
  have e3 : ∀ j code, cfv g h' k j code = cfv g h k j code := by
    intro j code
    unfold cfv
    split
    · rw [e1]
    · rw [e2]
    · rfl
    · rfl
  unfold ccell
  split
  · simp only [cfs, e3]
  · simp only [e1, e2]
theorem cw_set {g : aG} {h h' : aH} {a : Nat} {c c' : aC} (hs : h.1[a]? = some c) (hs' : h'.1[a]? = some c') (hl : h'.1.length = h.1.length) (ho : ∀ k : Nat, k ≠ a → h'.1[k]? = h.1[k]? ∧ h'.2.1 k = h.2.1 k ∧ h'.2.2 k = h.2.2 k) {e : va_E} (he : ccell g h' a c' = e) : (cw g h).set a (g.2.2.1 + a, e) = cw g h' := by
  apply List.ext_getElem?
  intro k
  rw [List.getElem?_set]
  by_cases hk : a = k
  · subst hk
    have hlt : a < (cw g h).length := by
      have := (List.getElem?_eq_some_iff.mp hs).1
      simpa [cw] using this
    rw [if_pos rfl, if_pos hlt, cw_at hs', he]
  · rw [if_neg hk]
    obtain ⟨o1, o2, o3⟩ := ho k (fun q => hk q.symm)
    simp only [cw, List.getElem?_mapIdx, o1]
    cases h.1[k]? with
    | none => rfl
    | some x => simp only [Option.map_some, ccell_other o2 o3]
theorem hI_o {h : aH} {a i : Nat} {v : Int32} : ∀ k : Nat, k ≠ a → (hI h a i v).1[k]? = h.1[k]? ∧ (hI h a i v).2.1 k = h.2.1 k ∧ (hI h a i v).2.2 k = h.2.2 k := fun k hk => ⟨rfl, by simp [hI, hk], rfl⟩
theorem hJ_o {h : aH} {a i : Nat} {v : Int64} : ∀ k : Nat, k ≠ a → (hJ h a i v).1[k]? = h.1[k]? ∧ (hJ h a i v).2.1 k = h.2.1 k ∧ (hJ h a i v).2.2 k = h.2.2 k := fun k hk => ⟨rfl, rfl, by simp [hJ, hk]⟩
theorem hCI_o {h : aH} {a b sp dp n : Nat} : ∀ k : Nat, k ≠ b → (hCI h a b sp dp n).1[k]? = h.1[k]? ∧ (hCI h a b sp dp n).2.1 k = h.2.1 k ∧ (hCI h a b sp dp n).2.2 k = h.2.2 k := fun k hk => ⟨rfl, by simp [hCI, hk], rfl⟩
theorem hCJ_o {h : aH} {a b sp dp n : Nat} : ∀ k : Nat, k ≠ b → (hCJ h a b sp dp n).1[k]? = h.1[k]? ∧ (hCJ h a b sp dp n).2.1 k = h.2.1 k ∧ (hCJ h a b sp dp n).2.2 k = h.2.2 k := fun k hk => ⟨rfl, rfl, by simp [hCJ, hk]⟩
theorem hR_o {h : aH} {a j code : Nat} : ∀ k : Nat, k ≠ a → (hR h a j code).1[k]? = h.1[k]? ∧ (hR h a j code).2.1 k = h.2.1 k ∧ (hR h a j code).2.2 k = h.2.2 k := fun k hk => ⟨by have ha : ¬ a = k := fun q => hk q.symm; simp [hR, List.getElem?_modify, ha], rfl, rfl⟩
theorem hR_len {h : aH} {a j code : Nat} : (hR h a j code).1.length = h.1.length := by simp [hR]
theorem cw_I {g : aG} {h : aH} {a t n : Nat} {rs : List Nat} (hs : h.1[a]? = some (.inl (t, n, rs))) (ht : t < 3) : (cw g h)[a]? = some (g.2.2.1 + a, .inl (g.2.1 t, n, .inl (h.2.1 a))) := by
  rw [cw_at hs]; simp only [ccell, if_pos ht]
theorem cw_J {g : aG} {h : aH} {a n : Nat} {rs : List Nat} (hs : h.1[a]? = some (.inl (3, n, rs))) : (cw g h)[a]? = some (g.2.2.1 + a, .inl (g.2.1 3, n, .inr (.inl (h.2.2 a)))) := by
  rw [cw_at hs]; simp [ccell]
theorem cw_Q {g : aG} {h : aH} {a t n : Nat} {rs : List Nat} (hs : h.1[a]? = some (.inl (t + 4, n, rs))) : (cw g h)[a]? = some (g.2.2.1 + a, .inl (g.2.1 (t + 4), n, .inr (.inr (.inr (.inr (crf g rs)))))) := by
  rw [cw_at hs]; simp [ccell]
theorem cw_O {g : aG} {h : aH} {a ci : Nat} {fs : List Nat} (hs : h.1[a]? = some (.inr (ci, fs))) : (cw g h)[a]? = some (g.2.2.1 + a, .inr (ci, cfs g h a fs)) := cw_at hs
theorem cw_setI {g : aG} {h : aH} {a t n i : Nat} {rs : List Nat} {v : Int32} (hs : h.1[a]? = some (.inl (t, n, rs))) (ht : t < 3) : (cw g h).set a (g.2.2.1 + a, .inl (g.2.1 t, n, .inl (upd (h.2.1 a) i v))) = cw g (hI h a i v) := by
  refine cw_set hs (h' := hI h a i v) hs rfl hI_o ?_
  simp [ccell, ht, hI]
theorem cw_setJ {g : aG} {h : aH} {a n i : Nat} {rs : List Nat} {v : Int64} (hs : h.1[a]? = some (.inl (3, n, rs))) : (cw g h).set a (g.2.2.1 + a, .inl (g.2.1 3, n, .inr (.inl (vp_updL (h.2.2 a) i v)))) = cw g (hJ h a i v) := by
  refine cw_set hs (h' := hJ h a i v) hs rfl hJ_o ?_
  simp [ccell, hJ]
theorem cw_setCI {g : aG} {h : aH} {a b t n sp dp k : Nat} {rs : List Nat} (hs : h.1[b]? = some (.inl (t, n, rs))) (ht : t < 3) : (cw g h).set b (g.2.2.1 + b, .inl (g.2.1 t, n, .inl (va_cpy (h.2.1 a) (h.2.1 b) sp dp k))) = cw g (hCI h a b sp dp k) := by
  refine cw_set hs (h' := hCI h a b sp dp k) hs rfl hCI_o ?_
  simp [ccell, ht, hCI]
theorem cw_setCJ {g : aG} {h : aH} {a b n sp dp k : Nat} {rs : List Nat} (hs : h.1[b]? = some (.inl (3, n, rs))) : (cw g h).set b (g.2.2.1 + b, .inl (g.2.1 3, n, .inr (.inl (va_cpy (h.2.2 a) (h.2.2 b) sp dp k)))) = cw g (hCJ h a b sp dp k) := by
  refine cw_set hs (h' := hCJ h a b sp dp k) hs rfl hCJ_o ?_
  simp [ccell, hCJ]
theorem cw_putI {g : aG} {h : aH} {a ci j : Nat} {fs : List Nat} {v : Int32} (hs : h.1[a]? = some (.inr (ci, fs))) (hf : fs[j]? = some 0) : (cw g h).set a (g.2.2.1 + a, .inr (ci, (cfs g h a fs).set j (.int v))) = cw g (hI h a j v) := by
  refine cw_set hs (h' := hI h a j v) hs rfl hI_o ?_
  simp only [ccell]
  congr 2
  apply List.ext_getElem?
  intro k
  rw [List.getElem?_set]
  by_cases hk : j = k
  · subst hk
    have hl := (List.getElem?_eq_some_iff.mp hf).1
    rw [if_pos rfl, if_pos (by rw [cfs_len]; exact hl), cfs_at hf]
    simp [cfv, hI, upd]
  · rw [if_neg hk]
    simp only [cfs, List.getElem?_mapIdx]
    congr 1
    funext c
    unfold cfv
    have hk2 : ¬ k = j := fun q => hk q.symm
    split <;> simp [hI, upd, hk2]
theorem cw_putJ {g : aG} {h : aH} {a ci j : Nat} {fs : List Nat} {v : Int64} (hs : h.1[a]? = some (.inr (ci, fs))) (hf : fs[j]? = some 1) : (cw g h).set a (g.2.2.1 + a, .inr (ci, (cfs g h a fs).set j (.long v))) = cw g (hJ h a j v) := by
  refine cw_set hs (h' := hJ h a j v) hs rfl hJ_o ?_
  simp only [ccell]
  congr 2
  apply List.ext_getElem?
  intro k
  rw [List.getElem?_set]
  by_cases hk : j = k
  · subst hk
    have hl := (List.getElem?_eq_some_iff.mp hf).1
    rw [if_pos rfl, if_pos (by rw [cfs_len]; exact hl), cfs_at hf]
    simp [cfv, hJ, vp_updL]
  · rw [if_neg hk]
    simp only [cfs, List.getElem?_mapIdx]
    congr 1
    funext c
    unfold cfv
    have hk2 : ¬ k = j := fun q => hk q.symm
    split <;> simp [hJ, vp_updL, hk2]
theorem cw_putR {g : aG} {h : aH} {a b ci j : Nat} {fs : List Nat} (hs : h.1[a]? = some (.inr (ci, fs))) (hj : j < fs.length) : (cw g h).set a (g.2.2.1 + a, .inr (ci, (cfs g h a fs).set j (.ref (g.2.2.1 + b)))) = cw g (hR h a j (b + 3)) := by
  refine cw_set hs (h' := hR h a j (b + 3)) (c' := .inr (ci, fs.set j (b + 3))) (by simp [hR, List.getElem?_modify, hs]) hR_len hR_o ?_
  simp only [ccell]
  congr 2
  apply List.ext_getElem?
  intro k
  simp only [cfs, List.getElem?_mapIdx, List.getElem?_set]
  by_cases hk : j = k
  · subst hk
    simp [hj, cfv]
  · simp only [if_neg hk, List.getElem?_mapIdx]
    rfl
theorem cw_setR {g : aG} {h : aH} {a b t n i : Nat} {rs : List Nat} (hs : h.1[a]? = some (.inl (t + 4, n, rs))) (hi : i < rs.length) : (cw g h).set a (g.2.2.1 + a, .inl (g.2.1 (t + 4), n, .inr (.inr (.inr (.inr (va_up (crf g rs) i (some (g.2.2.1 + b)))))))) = cw g (hR h a i (b + 3)) := by
  refine cw_set hs (h' := hR h a i (b + 3)) (c' := .inl (t + 4, n, rs.set i (b + 3))) (by simp [hR, List.getElem?_modify, hs]) hR_len hR_o ?_
  have e : crf g (rs.set i (b + 3)) = va_up (crf g rs) i (some (g.2.2.1 + b)) := by
    funext q
    simp only [crf, va_up, List.getD_eq_getElem?_getD, List.getElem?_set]
    by_cases hq : i = q
    · subst hq
      simp [hi, crv]
    · rw [if_neg hq, if_neg (fun z => hq z.symm)]
  simp [ccell, e]
/-- a new cell at the end -/
theorem cw_new {g : aG} {h : aH} {c : aC} {e : va_E} (he : ccell g (hN h c) h.1.length c = e) : cw g h ++ [(g.2.2.1 + h.1.length, e)] = cw g (hN h c) := by
  apply List.ext_getElem?
  intro k
  have hl : (cw g h).length = h.1.length := by simp [cw]
  rcases Nat.lt_trichotomy k h.1.length with hk | hk | hk
  · rw [List.getElem?_append_left (by omega)]
    have e1 : (hN h c).1[k]? = h.1[k]? := by simp [hN, List.getElem?_append_left hk]
    simp only [cw, List.getElem?_mapIdx, e1]
    cases h.1[k]? with
    | none => rfl
    | some x => simp only [Option.map_some]; rw [ccell_other (h' := hN h c) (h := h) (by simp [hN, Nat.ne_of_lt hk]) (by simp [hN, Nat.ne_of_lt hk])]
  · subst hk
    rw [List.getElem?_append_right (by omega), hl, Nat.sub_self, cw_at (c := c) (by simp [hN]), he]
    rfl
  · rw [List.getElem?_eq_none (by simp [hl]; omega), List.getElem?_eq_none (by simp [cw, hN]; omega)]
end
section
def sIdx : List Nat := [69, 78, 83, 88, 93, 142, 147, 149, 98]
def sTxt : List String := ["place", "way", "shut", "moves", "first", "sent", "near", "number", "most"]
def sLen : List Nat := [5, 3, 4, 5, 5, 4, 4, 6, 4]
def sByt : List (List Int32) := [[112, 108, 97, 99, 101], [119, 97, 121], [115, 104, 117, 116], [109, 111, 118, 101, 115], [102, 105, 114, 115, 116], [115, 101, 110, 116], [110, 101, 97, 114], [110, 117, 109, 98, 101, 114], [109, 111, 115, 116]]
def wNest0 : Cond := .methodLinkNest "LatePrices" 9 ⟨"LatePrices$Tape", "<init>", "()V"⟩ "LatePrices"
def wNest1 : Cond := .methodLinkNest "LatePrices" 95 ⟨"LatePrices$Sheet", "<init>", "()V"⟩ "LatePrices"
/-- what lies below the first address: the nine texts, two statics, the script; words that a call hands on in another way -/
def aX (E : aE) (g : aG) (U : State) : Prop :=
  (∃ adK adV : Nat → Nat, (∀ j, j < 9 → g.2.2.2 j = .ref (adK j) ∧ g.2.2.2 (16 + j) = .ref (adV j)) ∧ vk_S 9 sLen sByt adK adV (aA g) U U.heap ∧ ∀ j, j < 9 → vk_R "LatePrices$Reader" (sIdx.getD j 0) (sTxt.getD j "") (adK j) U)
  ∧ va_Z "java/lang/String" "COMPACT_STRINGS" "Z" (.int 1) (aA g) U U.heap
  ∧ va_Z "jdk/internal/util/Preconditions" "SIOOBE_FORMATTER" "Ljava/util/function/BiFunction;" (g.2.2.2 33) (aA g) U U.heap
  ∧ (∃ b : Nat, g.2.2.2 32 = .ref b ∧ b < g.2.2.1 ∧ va_X b E.2.1 E.2.2 U U.heap)
  ∧ va_AO "LatePrices$Ledger" U ∧ va_AO "LatePrices$Sheet" U ∧ va_Nw wNest0 U ∧ va_Nw wNest1 U ∧ ∀ j, (g.2.2.2 j).category = 1
theorem aX_moved {E : aE} {g : aG} {s U : State} {H : Heap} {locs : List Loc} (h : aX E g s) (hb : g.2.2.1 ≤ s.heap.size) (hS : va_S (aA g) s.heap H locs) (hW : s.WarmedH U.vm) (hU : U.heap = H) : aX E g U := by
  subst hU
  obtain ⟨⟨adK, adV, h1, h2, h3⟩, h4, h5, ⟨b, h6, h7, h8⟩, h9, h10, h11, h12, h13⟩ := h
  have hk : ∀ a : Nat, a < s.heap.size → ¬ aA g a → U.heap[a]? = s.heap[a]? := fun a q1 q2 => hS.2.1 a q1 q2
  refine ⟨⟨adK, adV, h1, (h2.kept hk).moved hW.alike, fun j hj => (h3 j hj).warm hW⟩, (h4.kept hk).moved hW.alike, (h5.kept hk).moved hW.alike, ⟨b, h6, h7, (h8.kept (hk b (by omega) (by show ¬ g.2.2.1 ≤ b; omega))).moved hW.alike⟩, h9.moved hW.alike, h10.moved hW.alike, va_Nw.warmM hW h11, va_Nw.warmM hW h12, h13⟩
theorem aX_calling {E : aE} {g : aG} {U : State} {f : JFrame} {mk : MethodId} {a : Array Value} (h : aX E g U) : aX E g (U.calling f mk a) := by
  obtain ⟨⟨adK, adV, h1, h2, h3⟩, h4, h5, ⟨b, h6, h7, h8⟩, h9, h10, h11, h12, h13⟩ := h
  have e : U.vm.Alike (U.calling f mk a).vm := Vm.Alike.refl U.vm
  refine ⟨⟨adK, adV, h1, h2.moved e, fun j hj => (h3 j hj).same rfl⟩, h4.moved e, h5.moved e, ⟨b, h6, h7, h8.moved e⟩, h9.moved e, h10.moved e, va_Nw.same rfl rfl h11, va_Nw.same rfl rfl h12, h13⟩
def aF (E : aE) (g : aG) (μ : aM) (p : Program) (s : State) (m : MethodId) (args : Array Value) (meth : Method) (c : Code) : Prop :=
  p.tables.exec = Jvm.exec ∧ c.code = M_c μ ∧ c.maxLocals = M_L μ ∧ meth.sig.returnType = M_r μ ∧ meth.locks = false ∧ meth.name = (M_y μ).name ∧ s.vm.findClass (M_y μ).cls = some m.cls ∧ (∀ w ∈ gtb, w.before args s = true) ∧ va_K g.1 CLS (aT g) s ∧ g.2.2.1 ≤ s.heap.size ∧ aX E g s
def aW (g : aG) (h : aH) (H : Heap) (s : State) (locs : List Loc) (c : Nat × Nat) : Prop := va_P g.1 CLS (cw g h) H ∧ va_S (aA g) s.heap H locs ∧ s.heap.size + c.1 = g.2.2.1 + h.1.length
def isJ (v : Value) : Bool := match v with
  | .retAddr _ => true
  | .double _ => true
  | _ => false
def aL (g : aG) (L : List Value) (ls : Array Slot) (nL : Nat) : Prop := ls.size = nL ∧ lv_wf ls ∧ ∀ (i : Nat) (v : Value), L[i]? = some v → isJ v = false → ls[i]? = some (.val (cv g v))
def aLl (g : aG) (L : List Value) : List (Nat × Value) := (List.range L.length).filterMap (fun i => (L[i]?).bind (fun v => if isJ v then none else some (i, cv g v)))
theorem aLl_mem {g : aG} {L : List Value} {q : Nat × Value} : q ∈ aLl g L ↔ ∃ v, L[q.1]? = some v ∧ isJ v = false ∧ q.2 = cv g v := by
  unfold aLl
  rw [List.mem_filterMap]
  constructor
  · rintro ⟨i, hi, h⟩
    cases hv : L[i]? with
    | none => rw [hv] at h; cases h
    | some v =>
      rw [hv] at h
      simp only [Option.bind_some] at h
      split at h
      · cases h
      · rename_i hj
        cases h
        exact ⟨v, hv, by simpa using hj, rfl⟩
  · rintro ⟨v, h1, h2, h3⟩
    refine ⟨q.1, List.mem_range.mpr (List.getElem?_eq_some_iff.mp h1).1, ?_⟩
    rw [h1]
    simp only [Option.bind_some, h2]
    rw [← h3]
    rfl
theorem aL_has {g : aG} {L : List Value} {ls : Array Slot} {nL : Nat} (h : aL g L ls nL) : lv_has ls nL (aLl g L) := by
  refine ⟨h.1, h.2.1, fun q hq => ?_⟩
  obtain ⟨v, h1, h2, h3⟩ := aLl_mem.mp hq
  rw [h3]
  exact h.2.2 q.1 v h1 h2
theorem aL_idx {g : aG} {L : List Value} {i : Nat} {v : Value} (hl : L[i]? = some v) (hj : isJ v = false) : ∃ q : Nat, (aLl g L)[q]? = some (i, cv g v) := by
  have : (i, cv g v) ∈ aLl g L := aLl_mem.mpr ⟨v, hl, hj, rfl⟩
  exact List.getElem?_of_mem this
/-- a long ahead of a place that is written is gone -/
def kl (L : List Value) (i : Nat) : List Value := match i with
  | 0 => L
  | j + 1 => match L[j]? with
    | some (.long _) => L.set j (.retAddr 0)
    | _ => L
def aset1 (L : List Value) (i : Nat) (v : Value) : List Value := (kl L i).set i v
def aset2 (L : List Value) (i : Nat) (v : Value) : List Value := ((kl L i).set i v).set (i + 1) (.retAddr 0)
theorem kl_at {L : List Value} {i j : Nat} {v : Value} (h : (kl L i)[j]? = some v) (hv : isJ v = false) : L[j]? = some v ∧ ¬ (j + 1 = i ∧ ∃ x, v = .long x) := by
  unfold kl at h
  split at h
  · exact ⟨h, by omega⟩
  · rename_i k
    split at h
    · rename_i x hx
      rw [List.getElem?_set] at h
      split at h
      · rename_i e
        subst e
        split at h
        · cases h; cases hv
        · cases h
      · rename_i e
        exact ⟨h, fun q => e (by omega)⟩
    · rename_i hn
      refine ⟨h, fun q => ?_⟩
      obtain ⟨q1, x, rfl⟩ := q
      have : j = k := by omega
      subst this
      exact hn x h
theorem F_w {E : aE} {g : aG} {μ : aM} {p : Program} {s : State} {m : MethodId} {args : Array Value} {meth : Method} {c : Code} (h : aF E g μ p s m args meth c) : ∀ w ∈ gtb, w.before args s = true := h.2.2.2.2.2.2.2.1
theorem F_o {E : aE} {g : aG} {μ : aM} {p : Program} {s : State} {m : MethodId} {args : Array Value} {meth : Method} {c : Code} (h : aF E g μ p s m args meth c) : s.vm.findClass (M_y μ).cls = some m.cls := h.2.2.2.2.2.2.1
theorem F_k {E : aE} {g : aG} {μ : aM} {p : Program} {s : State} {m : MethodId} {args : Array Value} {meth : Method} {c : Code} (h : aF E g μ p s m args meth c) : va_K g.1 CLS (aT g) s := h.2.2.2.2.2.2.2.2.1
theorem F_b {E : aE} {g : aG} {μ : aM} {p : Program} {s : State} {m : MethodId} {args : Array Value} {meth : Method} {c : Code} (h : aF E g μ p s m args meth c) : g.2.2.1 ≤ s.heap.size := h.2.2.2.2.2.2.2.2.2.1
theorem F_X {E : aE} {g : aG} {μ : aM} {p : Program} {s : State} {m : MethodId} {args : Array Value} {meth : Method} {c : Code} (h : aF E g μ p s m args meth c) : aX E g s := h.2.2.2.2.2.2.2.2.2.2
theorem aX_cat {E : aE} {g : aG} {U : State} (h : aX E g U) : ∀ j, (g.2.2.2 j).category = 1 := h.2.2.2.2.2.2.2.2
theorem cv_cat {g : aG} (hc : ∀ j, (g.2.2.2 j).category = 1) (v : Value) : (cv g v).category = v.category := by
  cases v <;> first | rfl | exact hc _
theorem aL_set1 {g : aG} {L : List Value} {ls' : Array Slot} {nL i : Nat} {v : Value} (hc : ∀ j, (g.2.2.2 j).category = 1) (h : lv_has ls' nL ((i, cv g v) :: (aLl g L).filter (fun q => !(q.1 == i) && !(q.1 + 1 == i && q.2.category == 2)))) : aL g (aset1 L i v) ls' nL := by
  refine ⟨h.1, h.2.1, fun j w hw hj => ?_⟩
  refine h.2.2 (j, cv g w) ?_
  unfold aset1 at hw
  rw [List.getElem?_set] at hw
  by_cases e : i = j
  · subst e
    rw [if_pos rfl] at hw
    split at hw
    · cases hw; exact List.mem_cons_self
    · cases hw
  · rw [if_neg e] at hw
    obtain ⟨h1, h2⟩ := kl_at hw hj
    refine List.mem_cons_of_mem _ (List.mem_filter.mpr ⟨aLl_mem.mpr ⟨w, h1, hj, rfl⟩, ?_⟩)
    have e2 : ¬ j = i := fun q => e q.symm
    by_cases e3 : j + 1 = i
    · have : ¬ (cv g w).category = 2 := by
        rw [cv_cat hc]
        intro q
        cases w <;> simp [Value.category] at q
        · exact h2 ⟨e3, _, rfl⟩
        · cases hj
      simp [e2, this]
    · simp [e2, e3]
theorem aL_set2 {g : aG} {L : List Value} {ls' : Array Slot} {nL i : Nat} {v : Value} (hc : ∀ j, (g.2.2.2 j).category = 1) (h : lv_has ls' nL ((i, cv g v) :: (aLl g L).filter (fun q => !(q.1 == i) && (!(q.1 == i + 1) && !(q.1 + 1 == i && q.2.category == 2))))) : aL g (aset2 L i v) ls' nL := by
  refine ⟨h.1, h.2.1, fun j w hw hj => ?_⟩
  refine h.2.2 (j, cv g w) ?_
  unfold aset2 at hw
  rw [List.getElem?_set] at hw
  by_cases e0 : i + 1 = j
  · subst e0
    rw [if_pos rfl] at hw
    split at hw
    · cases hw; cases hj
    · cases hw
  rw [if_neg e0, List.getElem?_set] at hw
  by_cases e : i = j
  · subst e
    rw [if_pos rfl] at hw
    split at hw
    · cases hw; exact List.mem_cons_self
    · cases hw
  · rw [if_neg e] at hw
    obtain ⟨h1, h2⟩ := kl_at hw hj
    refine List.mem_cons_of_mem _ (List.mem_filter.mpr ⟨aLl_mem.mpr ⟨w, h1, hj, rfl⟩, ?_⟩)
    have e2 : ¬ j = i := fun q => e q.symm
    have e4 : ¬ j = i + 1 := fun q => e0 q.symm
    by_cases e3 : j + 1 = i
    · have : ¬ (cv g w).category = 2 := by
        rw [cv_cat hc]
        intro q
        cases w <;> simp [Value.category] at q
        · exact h2 ⟨e3, _, rfl⟩
        · cases hj
      simp [e2, e4, this]
    · simp [e2, e3, e4]
def aSp (j : UInt32) : Prop := j.toNat < 9 ∨ (16 ≤ j.toNat ∧ j.toNat < 25) ∨ j.toNat = 32
theorem aSp_ref {E : aE} {g : aG} {s : State} {j : UInt32} (h : aX E g s) (hj : aSp j) : ∃ b, g.2.2.2 j.toNat = .ref b := by
  obtain ⟨⟨adK, adV, h1, -⟩, -, -, ⟨b, h6, -⟩, -⟩ := h
  rcases hj with hj | ⟨ha, hb⟩ | hj
  · exact ⟨_, (h1 _ hj).1⟩
  · have := (h1 (j.toNat - 16) (by omega)).2
    rw [show 16 + (j.toNat - 16) = j.toNat by omega] at this
    exact ⟨_, this⟩
  · rw [hj]; exact ⟨b, h6⟩
def aB (g : aG) (h : aH) (t : State) : Prop := va_P g.1 CLS (cw g h) t.heap
/-- how many cells a method has made: it and the heap agree -/
def aZ (μ : aM) (g : aG) (st : State) (u : aH) : Prop := st.heap.size + (M_R μ).cells = g.2.2.1 + u.1.length
def rQ (μ : aM) (K : Value → aH → Prop) (g : aG) : Array Value → State → Outcome → State → Prop := fun a st oc t => match M_k μ with
  | 0 => va_Qv (fun u => K .null u ∧ aZ μ g st u) (aB g) (aA g) a st oc t
  | 1 => va_Qi (fun r u => K (.int r) u ∧ aZ μ g st u) (aB g) (aA g) a st oc t
  | _ => va_Ql (fun r u => K (.long r) u ∧ aZ μ g st u) (aB g) (aA g) a st oc t
/-- THE JUDGEMENT: from here the method returns, and answer and heap are as K says -/
def V (E : aE) (μ : aM) (K : Value → aH → Prop) (pc : Nat) (L st : List Value) (h : aH) (c : Nat × Nat) : Prop :=
  ∀ (g : aG) (p : Program) (e : Env) (s : State) (m : MethodId) (args : Array Value) (below : List Frame) (meth : Method) (cd : Code) (H : Heap) (locs : List Loc) (ls : Array Slot),
    aF E g μ p s m args meth cd → aW g h H s locs c → aL g L ls (M_L μ) →
    W p E.1 e (M_R μ) s m args below meth cd H locs c.1 c.2 (MQ below (rQ μ K g) args s (M_R μ).cells (M_R μ).slots (aA g)) (F0 m pc ls (st.map (cv g)))
def Dc (cc : ByteArray) (pc : Nat) (i : Instr) (n npc : Nat) : Prop := decode cc pc = .ok (i, n) ∧ pc + n = npc
def Dj (cc : ByteArray) (pc : Nat) (i : Instr) (n npc : Nat) (off : Int) (tgt : Nat) : Prop := decode cc pc = .ok (i, n) ∧ pc + n = npc ∧ (pc : Int) + off = (tgt : Int)

section VR
variable {E : aE} {μ : aM} {K : Value → aH → Prop} {pc npc tgt : Nat} {L : List Value} {st : List Value} {h : aH} {c : Nat × Nat}
theorem V_iload {i : Nat} {x : Int32} (hd : Dc (M_c μ) pc (.iload i) 2 npc) (hl : L[i]? = some (.int x)) (k : V E μ K npc L (.int x :: st) h c) : V E μ K pc L (st) h c := by
  obtain ⟨hdg, rfl⟩ := hd
  intro g p e s m args below meth cd H locs ls hF hW hL
  exact lv_iload hF.1 hF.2.1 hdg (hL.2.2 i _ hl rfl) (k g p e s m args below meth cd H locs ls hF hW hL)
theorem V_iload_n {i : Fin 4} {x : Int32} (hd : Dc (M_c μ) pc (.iload_n i) 1 npc) (hl : L[i.1]? = some (.int x)) (k : V E μ K npc L (.int x :: st) h c) : V E μ K pc L (st) h c := by
  obtain ⟨hdg, rfl⟩ := hd
  intro g p e s m args below meth cd H locs ls hF hW hL
  exact lv_iload_n hF.1 hF.2.1 hdg rfl (hL.2.2 i.1 _ hl rfl) (k g p e s m args below meth cd H locs ls hF hW hL)
theorem V_aload {i : Nat} {x : Nat} (hd : Dc (M_c μ) pc (.aload i) 2 npc) (hl : L[i]? = some (.ref x)) (k : V E μ K npc L (.ref x :: st) h c) : V E μ K pc L (st) h c := by
  obtain ⟨hdg, rfl⟩ := hd
  intro g p e s m args below meth cd H locs ls hF hW hL
  exact lv_aload hF.1 hF.2.1 hdg (hL.2.2 i _ hl rfl) (k g p e s m args below meth cd H locs ls hF hW hL)
theorem V_aload_n {i : Fin 4} {x : Nat} (hd : Dc (M_c μ) pc (.aload_n i) 1 npc) (hl : L[i.1]? = some (.ref x)) (k : V E μ K npc L (.ref x :: st) h c) : V E μ K pc L (st) h c := by
  obtain ⟨hdg, rfl⟩ := hd
  intro g p e s m args below meth cd H locs ls hF hW hL
  exact lv_aload_n hF.1 hF.2.1 hdg rfl (hL.2.2 i.1 _ hl rfl) (k g p e s m args below meth cd H locs ls hF hW hL)
theorem V_lload {i : Nat} {x : Int64} (hd : Dc (M_c μ) pc (.lload i) 2 npc) (hl : L[i]? = some (.long x)) (k : V E μ K npc L (.long x :: st) h c) : V E μ K pc L (st) h c := by
  obtain ⟨hdg, rfl⟩ := hd
  intro g p e s m args below meth cd H locs ls hF hW hL
  exact lv_lload hF.1 hF.2.1 hdg (hL.2.2 i _ hl rfl) (k g p e s m args below meth cd H locs ls hF hW hL)
theorem V_lload_n {i : Fin 4} {x : Int64} (hd : Dc (M_c μ) pc (.lload_n i) 1 npc) (hl : L[i.1]? = some (.long x)) (k : V E μ K npc L (.long x :: st) h c) : V E μ K pc L (st) h c := by
  obtain ⟨hdg, rfl⟩ := hd
  intro g p e s m args below meth cd H locs ls hF hW hL
  exact lv_lload_n hF.1 hF.2.1 hdg rfl (hL.2.2 i.1 _ hl rfl) (k g p e s m args below meth cd H locs ls hF hW hL)
theorem V_aloadS_n {i : Fin 4} {j : UInt32} (hd : Dc (M_c μ) pc (.aload_n i) 1 npc) (hj : aSp j) (hl : L[i.1]? = some (.float j)) (k : V E μ K npc L (.float j :: st) h c) : V E μ K pc L st h c := by
  obtain ⟨hdg, rfl⟩ := hd
  intro g p e s m args below meth cd H locs ls hF hW hL
  obtain ⟨b, hb⟩ := aSp_ref (F_X hF) hj
  have h1 := hL.2.2 i.1 _ hl rfl
  rw [show cv g (.float j) = .ref b from hb] at h1
  refine lv_aload_n hF.1 hF.2.1 hdg rfl h1 ?_
  have h2 := k g p e s m args below meth cd H locs ls hF hW hL
  rw [List.map_cons, show cv g (.float j) = .ref b from hb] at h2
  exact h2
theorem V_istore {i : Nat} {x : Int32} (hd : Dc (M_c μ) pc (.istore i) 2 npc) (hn : i < M_L μ) (k : V E μ K npc (aset1 L i (.int x)) st h c) : V E μ K pc L (.int x :: st) h c := by
  obtain ⟨hdg, rfl⟩ := hd
  intro g p e s m args below meth cd H locs ls hF hW hL
  exact lv_istore hF.1 hF.2.1 hdg (aL_has hL) hn rfl (fun ls' hl' => k g p e s m args below meth cd H locs ls' hF hW (aL_set1 (aX_cat (F_X hF)) hl'))
theorem V_istore_n {i : Fin 4} {x : Int32} (hd : Dc (M_c μ) pc (.istore_n i) 1 npc) (hn : i.1 < M_L μ) (k : V E μ K npc (aset1 L i.1 (.int x)) st h c) : V E μ K pc L (.int x :: st) h c := by
  obtain ⟨hdg, rfl⟩ := hd
  intro g p e s m args below meth cd H locs ls hF hW hL
  exact lv_istore_n hF.1 hF.2.1 hdg rfl (aL_has hL) hn rfl (fun ls' hl' => k g p e s m args below meth cd H locs ls' hF hW (aL_set1 (aX_cat (F_X hF)) hl'))
theorem V_astore {i : Nat} {x : Nat} (hd : Dc (M_c μ) pc (.astore i) 2 npc) (hn : i < M_L μ) (k : V E μ K npc (aset1 L i (.ref x)) st h c) : V E μ K pc L (.ref x :: st) h c := by
  obtain ⟨hdg, rfl⟩ := hd
  intro g p e s m args below meth cd H locs ls hF hW hL
  exact lv_astore hF.1 hF.2.1 hdg (aL_has hL) hn rfl (fun ls' hl' => k g p e s m args below meth cd H locs ls' hF hW (aL_set1 (aX_cat (F_X hF)) hl'))
theorem V_astore_n {i : Fin 4} {x : Nat} (hd : Dc (M_c μ) pc (.astore_n i) 1 npc) (hn : i.1 < M_L μ) (k : V E μ K npc (aset1 L i.1 (.ref x)) st h c) : V E μ K pc L (.ref x :: st) h c := by
  obtain ⟨hdg, rfl⟩ := hd
  intro g p e s m args below meth cd H locs ls hF hW hL
  exact lv_astore_n hF.1 hF.2.1 hdg rfl (aL_has hL) hn rfl (fun ls' hl' => k g p e s m args below meth cd H locs ls' hF hW (aL_set1 (aX_cat (F_X hF)) hl'))
theorem V_lstore {i : Nat} {x : Int64} (hd : Dc (M_c μ) pc (.lstore i) 2 npc) (hn : i + 1 < M_L μ) (k : V E μ K npc (aset2 L i (.long x)) st h c) : V E μ K pc L (.long x :: st) h c := by
  obtain ⟨hdg, rfl⟩ := hd
  intro g p e s m args below meth cd H locs ls hF hW hL
  exact lv_lstore hF.1 hF.2.1 hdg (aL_has hL) hn rfl (fun ls' hl' => k g p e s m args below meth cd H locs ls' hF hW (aL_set2 (aX_cat (F_X hF)) hl'))
theorem V_lstore_n {i : Fin 4} {x : Int64} (hd : Dc (M_c μ) pc (.lstore_n i) 1 npc) (hn : i.1 + 1 < M_L μ) (k : V E μ K npc (aset2 L i.1 (.long x)) st h c) : V E μ K pc L (.long x :: st) h c := by
  obtain ⟨hdg, rfl⟩ := hd
  intro g p e s m args below meth cd H locs ls hF hW hL
  exact lv_lstore_n hF.1 hF.2.1 hdg rfl (aL_has hL) hn rfl (fun ls' hl' => k g p e s m args below meth cd H locs ls' hF hW (aL_set2 (aX_cat (F_X hF)) hl'))
theorem V_iinc {i : Nat} {z : Int} {x v : Int32} (hd : Dc (M_c μ) pc (.iinc i z) 3 npc) (hn : i < M_L μ) (hl : L[i]? = some (.int x)) (hv : x + Int32.ofInt z = v) (k : V E μ K npc (aset1 L i (.int v)) st h c) : V E μ K pc L st h c := by
  obtain ⟨hdg, rfl⟩ := hd
  intro g p e s m args below meth cd H locs ls hF hW hL
  obtain ⟨q, hq⟩ := aL_idx (g := g) hl rfl
  exact lv_iinc (k := q) hF.1 hF.2.1 hdg (aL_has hL) hq hv hn rfl (fun ls' hl' => k g p e s m args below meth cd H locs ls' hF hW (aL_set1 (aX_cat (F_X hF)) hl'))
theorem V_iconst {z : Int} {v : Int32} (hd : Dc (M_c μ) pc (.iconst z) 1 npc) (hv : Int32.ofInt z = v) (k : V E μ K npc L (.int v :: st) h c) : V E μ K pc L (st) h c := by
  obtain ⟨hdg, rfl⟩ := hd
  intro g p e s m args below meth cd H locs ls hF hW hL
  exact lv_iconst hF.1 hF.2.1 hdg hv (k g p e s m args below meth cd H locs ls hF hW hL)
theorem V_lconst {z : Fin 2} {v : Int64} (hd : Dc (M_c μ) pc (.lconst z) 1 npc) (hv : Int64.ofNat (z : Nat) = v) (k : V E μ K npc L (.long v :: st) h c) : V E μ K pc L (st) h c := by
  obtain ⟨hdg, rfl⟩ := hd
  intro g p e s m args below meth cd H locs ls hF hW hL
  exact lv_lconst hF.1 hF.2.1 hdg hv (k g p e s m args below meth cd H locs ls hF hW hL)
theorem V_bipush {z : Int} {v : Int32} (hd : Dc (M_c μ) pc (.bipush z) 2 npc) (hv : (Int8.ofInt z).toInt32 = v) (k : V E μ K npc L (.int v :: st) h c) : V E μ K pc L (st) h c := by
  obtain ⟨hdg, rfl⟩ := hd
  intro g p e s m args below meth cd H locs ls hF hW hL
  exact lv_bipush hF.1 hF.2.1 hdg hv (k g p e s m args below meth cd H locs ls hF hW hL)
theorem V_sipush {z : Int} {v : Int32} (hd : Dc (M_c μ) pc (.sipush z) 3 npc) (hv : (Int16.ofInt z).toInt32 = v) (k : V E μ K npc L (.int v :: st) h c) : V E μ K pc L (st) h c := by
  obtain ⟨hdg, rfl⟩ := hd
  intro g p e s m args below meth cd H locs ls hF hW hL
  exact lv_sipush hF.1 hF.2.1 hdg hv (k g p e s m args below meth cd H locs ls hF hW hL)
theorem V_ldc {i : Nat} {v : Int32} (hd : Dc (M_c μ) pc (.ldc i) 2 npc) (hw : Cond.constant (M_y μ).cls i v ∈ gtb) (k : V E μ K npc L (.int v :: st) h c) : V E μ K pc L (st) h c := by
  obtain ⟨hdg, rfl⟩ := hd
  intro g p e s m args below meth cd H locs ls hF hW hL
  exact lv_ldc hF.1 hF.2.1 (F_o hF) (F_w hF _ hw) hdg (k g p e s m args below meth cd H locs ls hF hW hL)
theorem V_ldc_w {i : Nat} {v : Int32} (hd : Dc (M_c μ) pc (.ldc_w i) 3 npc) (hw : Cond.constant (M_y μ).cls i v ∈ gtb) (k : V E μ K npc L (.int v :: st) h c) : V E μ K pc L (st) h c := by
  obtain ⟨hdg, rfl⟩ := hd
  intro g p e s m args below meth cd H locs ls hF hW hL
  exact lv_ldcw hF.1 hF.2.1 (F_o hF) (F_w hF _ hw) hdg (k g p e s m args below meth cd H locs ls hF hW hL)
theorem V_ldc2_w {i : Nat} {v : Int64} (hd : Dc (M_c μ) pc (.ldc2_w i) 3 npc) (hw : Cond.constantLong (M_y μ).cls i v ∈ gtb) (k : V E μ K npc L (.long v :: st) h c) : V E μ K pc L (st) h c := by
  obtain ⟨hdg, rfl⟩ := hd
  intro g p e s m args below meth cd H locs ls hF hW hL
  exact lv_ldc2 hF.1 hF.2.1 (F_o hF) (F_w hF _ hw) hdg (k g p e s m args below meth cd H locs ls hF hW hL)
theorem V_dupI {x : Int32} (hd : Dc (M_c μ) pc (.dup) 1 npc) (k : V E μ K npc L (.int x :: .int x :: st) h c) : V E μ K pc L (.int x :: st) h c := by
  obtain ⟨hdg, rfl⟩ := hd
  intro g p e s m args below meth cd H locs ls hF hW hL
  exact lv_dup hF.1 hF.2.1 hdg rfl (k g p e s m args below meth cd H locs ls hF hW hL)
theorem V_dupR {x : Nat} (hd : Dc (M_c μ) pc (.dup) 1 npc) (k : V E μ K npc L (.ref x :: .ref x :: st) h c) : V E μ K pc L (.ref x :: st) h c := by
  obtain ⟨hdg, rfl⟩ := hd
  intro g p e s m args below meth cd H locs ls hF hW hL
  exact lv_dup hF.1 hF.2.1 hdg rfl (k g p e s m args below meth cd H locs ls hF hW hL)
theorem V_dup2 {x : Int32} {y : Nat} (hd : Dc (M_c μ) pc (.dup2) 1 npc) (k : V E μ K npc L (.int x :: .ref y :: .int x :: .ref y :: st) h c) : V E μ K pc L (.int x :: .ref y :: st) h c := by
  obtain ⟨hdg, rfl⟩ := hd
  intro g p e s m args below meth cd H locs ls hF hW hL
  exact lv_dup2_11 hF.1 hF.2.1 hdg rfl rfl (k g p e s m args below meth cd H locs ls hF hW hL)
theorem V_popI {x : Int32} (hd : Dc (M_c μ) pc (.pop) 1 npc) (k : V E μ K npc L (st) h c) : V E μ K pc L (.int x :: st) h c := by
  obtain ⟨hdg, rfl⟩ := hd
  intro g p e s m args below meth cd H locs ls hF hW hL
  exact lv_pop hF.1 hF.2.1 hdg rfl (k g p e s m args below meth cd H locs ls hF hW hL)
theorem V_iadd {x y : Int32} (hd : Dc (M_c μ) pc (.iadd) 1 npc) (k : V E μ K npc L (.int (x + y) :: st) h c) : V E μ K pc L (.int y :: .int x :: st) h c := by
  obtain ⟨hdg, rfl⟩ := hd
  intro g p e s m args below meth cd H locs ls hF hW hL
  exact lv_iadd hF.1 hF.2.1 hdg (k g p e s m args below meth cd H locs ls hF hW hL)
theorem V_isub {x y : Int32} (hd : Dc (M_c μ) pc (.isub) 1 npc) (k : V E μ K npc L (.int (x - y) :: st) h c) : V E μ K pc L (.int y :: .int x :: st) h c := by
  obtain ⟨hdg, rfl⟩ := hd
  intro g p e s m args below meth cd H locs ls hF hW hL
  exact lv_isub hF.1 hF.2.1 hdg (k g p e s m args below meth cd H locs ls hF hW hL)
theorem V_imul {x y : Int32} (hd : Dc (M_c μ) pc (.imul) 1 npc) (k : V E μ K npc L (.int (x * y) :: st) h c) : V E μ K pc L (.int y :: .int x :: st) h c := by
  obtain ⟨hdg, rfl⟩ := hd
  intro g p e s m args below meth cd H locs ls hF hW hL
  exact lv_imul hF.1 hF.2.1 hdg (k g p e s m args below meth cd H locs ls hF hW hL)
theorem V_iand {x y : Int32} (hd : Dc (M_c μ) pc (.iand) 1 npc) (k : V E μ K npc L (.int (x &&& y) :: st) h c) : V E μ K pc L (.int y :: .int x :: st) h c := by
  obtain ⟨hdg, rfl⟩ := hd
  intro g p e s m args below meth cd H locs ls hF hW hL
  exact lv_iand hF.1 hF.2.1 hdg (k g p e s m args below meth cd H locs ls hF hW hL)
theorem V_ior {x y : Int32} (hd : Dc (M_c μ) pc (.ior) 1 npc) (k : V E μ K npc L (.int (x ||| y) :: st) h c) : V E μ K pc L (.int y :: .int x :: st) h c := by
  obtain ⟨hdg, rfl⟩ := hd
  intro g p e s m args below meth cd H locs ls hF hW hL
  exact lv_ior hF.1 hF.2.1 hdg (k g p e s m args below meth cd H locs ls hF hW hL)
theorem V_ishl {x y : Int32} (hd : Dc (M_c μ) pc (.ishl) 1 npc) (k : V E μ K npc L (.int (x <<< (y &&& 31)) :: st) h c) : V E μ K pc L (.int y :: .int x :: st) h c := by
  obtain ⟨hdg, rfl⟩ := hd
  intro g p e s m args below meth cd H locs ls hF hW hL
  exact lv_ishl hF.1 hF.2.1 hdg (k g p e s m args below meth cd H locs ls hF hW hL)
theorem V_ishr {x y : Int32} (hd : Dc (M_c μ) pc (.ishr) 1 npc) (k : V E μ K npc L (.int (x >>> (y &&& 31)) :: st) h c) : V E μ K pc L (.int y :: .int x :: st) h c := by
  obtain ⟨hdg, rfl⟩ := hd
  intro g p e s m args below meth cd H locs ls hF hW hL
  exact lv_ishr hF.1 hF.2.1 hdg (k g p e s m args below meth cd H locs ls hF hW hL)
theorem V_idiv {x y : Int32} (hd : Dc (M_c μ) pc (.idiv) 1 npc) (hne : ¬ y = 0) (k : V E μ K npc L (.int (x / y) :: st) h c) : V E μ K pc L (.int y :: .int x :: st) h c := by
  obtain ⟨hdg, rfl⟩ := hd
  intro g p e s m args below meth cd H locs ls hF hW hL
  exact lv_idiv hF.1 hF.2.1 hdg hne (k g p e s m args below meth cd H locs ls hF hW hL)
theorem V_irem {x y : Int32} (hd : Dc (M_c μ) pc (.irem) 1 npc) (hne : ¬ y = 0) (k : V E μ K npc L (.int (x - x / y * y) :: st) h c) : V E μ K pc L (.int y :: .int x :: st) h c := by
  obtain ⟨hdg, rfl⟩ := hd
  intro g p e s m args below meth cd H locs ls hF hW hL
  exact lv_irem hF.1 hF.2.1 hdg hne (k g p e s m args below meth cd H locs ls hF hW hL)
theorem V_ladd {x y : Int64} (hd : Dc (M_c μ) pc (.ladd) 1 npc) (k : V E μ K npc L (.long (x + y) :: st) h c) : V E μ K pc L (.long y :: .long x :: st) h c := by
  obtain ⟨hdg, rfl⟩ := hd
  intro g p e s m args below meth cd H locs ls hF hW hL
  exact lv_ladd hF.1 hF.2.1 hdg (k g p e s m args below meth cd H locs ls hF hW hL)
theorem V_lsub {x y : Int64} (hd : Dc (M_c μ) pc (.lsub) 1 npc) (k : V E μ K npc L (.long (x - y) :: st) h c) : V E μ K pc L (.long y :: .long x :: st) h c := by
  obtain ⟨hdg, rfl⟩ := hd
  intro g p e s m args below meth cd H locs ls hF hW hL
  exact lv_lsub hF.1 hF.2.1 hdg (k g p e s m args below meth cd H locs ls hF hW hL)
theorem V_lmul {x y : Int64} (hd : Dc (M_c μ) pc (.lmul) 1 npc) (k : V E μ K npc L (.long (x * y) :: st) h c) : V E μ K pc L (.long y :: .long x :: st) h c := by
  obtain ⟨hdg, rfl⟩ := hd
  intro g p e s m args below meth cd H locs ls hF hW hL
  exact lv_lmul hF.1 hF.2.1 hdg (k g p e s m args below meth cd H locs ls hF hW hL)
theorem V_land {x y : Int64} (hd : Dc (M_c μ) pc (.land) 1 npc) (k : V E μ K npc L (.long (x &&& y) :: st) h c) : V E μ K pc L (.long y :: .long x :: st) h c := by
  obtain ⟨hdg, rfl⟩ := hd
  intro g p e s m args below meth cd H locs ls hF hW hL
  exact lv_land hF.1 hF.2.1 hdg (k g p e s m args below meth cd H locs ls hF hW hL)
theorem V_lor {x y : Int64} (hd : Dc (M_c μ) pc (.lor) 1 npc) (k : V E μ K npc L (.long (x ||| y) :: st) h c) : V E μ K pc L (.long y :: .long x :: st) h c := by
  obtain ⟨hdg, rfl⟩ := hd
  intro g p e s m args below meth cd H locs ls hF hW hL
  exact lv_lor hF.1 hF.2.1 hdg (k g p e s m args below meth cd H locs ls hF hW hL)
theorem V_ldiv {x y : Int64} (hd : Dc (M_c μ) pc (.ldiv) 1 npc) (hne : ¬ y = 0) (k : V E μ K npc L (.long (x / y) :: st) h c) : V E μ K pc L (.long y :: .long x :: st) h c := by
  obtain ⟨hdg, rfl⟩ := hd
  intro g p e s m args below meth cd H locs ls hF hW hL
  exact lv_ldiv hF.1 hF.2.1 hdg hne (k g p e s m args below meth cd H locs ls hF hW hL)
theorem V_lrem {x y : Int64} (hd : Dc (M_c μ) pc (.lrem) 1 npc) (hne : ¬ y = 0) (k : V E μ K npc L (.long (x - x / y * y) :: st) h c) : V E μ K pc L (.long y :: .long x :: st) h c := by
  obtain ⟨hdg, rfl⟩ := hd
  intro g p e s m args below meth cd H locs ls hF hW hL
  exact lv_lrem hF.1 hF.2.1 hdg hne (k g p e s m args below meth cd H locs ls hF hW hL)
theorem V_ineg {x : Int32} (hd : Dc (M_c μ) pc (.ineg) 1 npc) (k : V E μ K npc L (.int (-x) :: st) h c) : V E μ K pc L (.int x :: st) h c := by
  obtain ⟨hdg, rfl⟩ := hd
  intro g p e s m args below meth cd H locs ls hF hW hL
  exact lv_ineg hF.1 hF.2.1 hdg (k g p e s m args below meth cd H locs ls hF hW hL)
theorem V_lneg {x : Int64} (hd : Dc (M_c μ) pc (.lneg) 1 npc) (k : V E μ K npc L (.long (-x) :: st) h c) : V E μ K pc L (.long x :: st) h c := by
  obtain ⟨hdg, rfl⟩ := hd
  intro g p e s m args below meth cd H locs ls hF hW hL
  exact lv_lneg hF.1 hF.2.1 hdg (k g p e s m args below meth cd H locs ls hF hW hL)
theorem V_lshl {x : Int64} {y : Int32} (hd : Dc (M_c μ) pc (.lshl) 1 npc) (k : V E μ K npc L (.long (x <<< (y.toInt64 &&& 63)) :: st) h c) : V E μ K pc L (.int y :: .long x :: st) h c := by
  obtain ⟨hdg, rfl⟩ := hd
  intro g p e s m args below meth cd H locs ls hF hW hL
  exact lv_lshl hF.1 hF.2.1 hdg rfl (k g p e s m args below meth cd H locs ls hF hW hL)
theorem V_lshr {x : Int64} {y : Int32} (hd : Dc (M_c μ) pc (.lshr) 1 npc) (k : V E μ K npc L (.long (x >>> (y.toInt64 &&& 63)) :: st) h c) : V E μ K pc L (.int y :: .long x :: st) h c := by
  obtain ⟨hdg, rfl⟩ := hd
  intro g p e s m args below meth cd H locs ls hF hW hL
  exact lv_lshr hF.1 hF.2.1 hdg rfl (k g p e s m args below meth cd H locs ls hF hW hL)
theorem V_lushr {x : Int64} {y : Int32} (hd : Dc (M_c μ) pc (.lushr) 1 npc) (k : V E μ K npc L (.long ((x.toUInt64 >>> (y.toInt64.toUInt64 &&& Int64.toUInt64 63)).toInt64) :: st) h c) : V E μ K pc L (.int y :: .long x :: st) h c := by
  obtain ⟨hdg, rfl⟩ := hd
  intro g p e s m args below meth cd H locs ls hF hW hL
  exact lv_lushr hF.1 hF.2.1 hdg rfl (k g p e s m args below meth cd H locs ls hF hW hL)
theorem V_i2l {x : Int32} (hd : Dc (M_c μ) pc (.i2l) 1 npc) (k : V E μ K npc L (.long x.toInt64 :: st) h c) : V E μ K pc L (.int x :: st) h c := by
  obtain ⟨hdg, rfl⟩ := hd
  intro g p e s m args below meth cd H locs ls hF hW hL
  exact lv_i2l hF.1 hF.2.1 hdg rfl (k g p e s m args below meth cd H locs ls hF hW hL)
theorem V_l2i {x : Int64} (hd : Dc (M_c μ) pc (.l2i) 1 npc) (k : V E μ K npc L (.int x.toInt32 :: st) h c) : V E μ K pc L (.long x :: st) h c := by
  obtain ⟨hdg, rfl⟩ := hd
  intro g p e s m args below meth cd H locs ls hF hW hL
  exact lv_l2i hF.1 hF.2.1 hdg rfl (k g p e s m args below meth cd H locs ls hF hW hL)
theorem V_i2b {x : Int32} (hd : Dc (M_c μ) pc (.i2b) 1 npc) (k : V E μ K npc L (.int x.toInt8.toInt32 :: st) h c) : V E μ K pc L (.int x :: st) h c := by
  obtain ⟨hdg, rfl⟩ := hd
  intro g p e s m args below meth cd H locs ls hF hW hL
  exact lv_i2b hF.1 hF.2.1 hdg rfl (k g p e s m args below meth cd H locs ls hF hW hL)
theorem V_i2s {x : Int32} (hd : Dc (M_c μ) pc (.i2s) 1 npc) (k : V E μ K npc L (.int x.toInt16.toInt32 :: st) h c) : V E μ K pc L (.int x :: st) h c := by
  obtain ⟨hdg, rfl⟩ := hd
  intro g p e s m args below meth cd H locs ls hF hW hL
  exact lv_i2s hF.1 hF.2.1 hdg rfl (k g p e s m args below meth cd H locs ls hF hW hL)
theorem V_i2c {x : Int32} (hd : Dc (M_c μ) pc (.i2c) 1 npc) (k : V E μ K npc L (.int (x.toUInt32 % 65536).toInt32 :: st) h c) : V E μ K pc L (.int x :: st) h c := by
  obtain ⟨hdg, rfl⟩ := hd
  intro g p e s m args below meth cd H locs ls hF hW hL
  exact lv_i2c hF.1 hF.2.1 hdg rfl (k g p e s m args below meth cd H locs ls hF hW hL)
theorem V_lcmp {x y : Int64} (hd : Dc (M_c μ) pc (.lcmp) 1 npc) (k : V E μ K npc L (.int (lg_cmp x y) :: st) h c) : V E μ K pc L (.long y :: .long x :: st) h c := by
  obtain ⟨hdg, rfl⟩ := hd
  intro g p e s m args below meth cd H locs ls hF hW hL
  exact W.lcmp hF.1 hF.2.1 hdg (k g p e s m args below meth cd H locs ls hF hW hL)
theorem V_goto {off : Int} (hd : Dj (M_c μ) pc (.goto off) 3 npc off tgt) (k : V E μ K tgt L st h c) : V E μ K pc L st h c := by
  obtain ⟨hdg, rfl, ht⟩ := hd
  intro g p e s m args below meth cd H locs ls hF hW hL
  exact lv_goto hF.1 hF.2.1 hdg ht (k g p e s m args below meth cd H locs ls hF hW hL)
theorem V_if_eq {off : Int} {x : Int32} (hd : Dj (M_c μ) pc (.ifCond .eq off) 3 npc off tgt) (kt : x = 0 → V E μ K tgt L st h c) (kf : ¬ x = 0 → V E μ K npc L st h c) : V E μ K pc L (.int x :: st) h c := by
  obtain ⟨hdg, rfl, ht⟩ := hd
  intro g p e s m args below meth cd H locs ls hF hW hL
  exact lv_if_eq hF.1 hF.2.1 hdg ht (fun q => kt q g p e s m args below meth cd H locs ls hF hW hL) (fun q => kf q g p e s m args below meth cd H locs ls hF hW hL)
theorem V_if_ne {off : Int} {x : Int32} (hd : Dj (M_c μ) pc (.ifCond .ne off) 3 npc off tgt) (kt : ¬ x = 0 → V E μ K tgt L st h c) (kf : x = 0 → V E μ K npc L st h c) : V E μ K pc L (.int x :: st) h c := by
  obtain ⟨hdg, rfl, ht⟩ := hd
  intro g p e s m args below meth cd H locs ls hF hW hL
  exact lv_if_ne hF.1 hF.2.1 hdg ht (fun q => kt q g p e s m args below meth cd H locs ls hF hW hL) (fun q => kf q g p e s m args below meth cd H locs ls hF hW hL)
theorem V_if_lt {off : Int} {x : Int32} (hd : Dj (M_c μ) pc (.ifCond .lt off) 3 npc off tgt) (kt : x < 0 → V E μ K tgt L st h c) (kf : ¬ x < 0 → V E μ K npc L st h c) : V E μ K pc L (.int x :: st) h c := by
  obtain ⟨hdg, rfl, ht⟩ := hd
  intro g p e s m args below meth cd H locs ls hF hW hL
  exact lv_if_lt hF.1 hF.2.1 hdg ht (fun q => kt q g p e s m args below meth cd H locs ls hF hW hL) (fun q => kf q g p e s m args below meth cd H locs ls hF hW hL)
theorem V_if_ge {off : Int} {x : Int32} (hd : Dj (M_c μ) pc (.ifCond .ge off) 3 npc off tgt) (kt : 0 ≤ x → V E μ K tgt L st h c) (kf : ¬ 0 ≤ x → V E μ K npc L st h c) : V E μ K pc L (.int x :: st) h c := by
  obtain ⟨hdg, rfl, ht⟩ := hd
  intro g p e s m args below meth cd H locs ls hF hW hL
  exact lv_if_ge hF.1 hF.2.1 hdg ht (fun q => kt q g p e s m args below meth cd H locs ls hF hW hL) (fun q => kf q g p e s m args below meth cd H locs ls hF hW hL)
theorem V_if_gt {off : Int} {x : Int32} (hd : Dj (M_c μ) pc (.ifCond .gt off) 3 npc off tgt) (kt : 0 < x → V E μ K tgt L st h c) (kf : ¬ 0 < x → V E μ K npc L st h c) : V E μ K pc L (.int x :: st) h c := by
  obtain ⟨hdg, rfl, ht⟩ := hd
  intro g p e s m args below meth cd H locs ls hF hW hL
  exact lv_if_gt hF.1 hF.2.1 hdg ht (fun q => kt q g p e s m args below meth cd H locs ls hF hW hL) (fun q => kf q g p e s m args below meth cd H locs ls hF hW hL)
theorem V_if_le {off : Int} {x : Int32} (hd : Dj (M_c μ) pc (.ifCond .le off) 3 npc off tgt) (kt : x ≤ 0 → V E μ K tgt L st h c) (kf : ¬ x ≤ 0 → V E μ K npc L st h c) : V E μ K pc L (.int x :: st) h c := by
  obtain ⟨hdg, rfl, ht⟩ := hd
  intro g p e s m args below meth cd H locs ls hF hW hL
  exact lv_if_le hF.1 hF.2.1 hdg ht (fun q => kt q g p e s m args below meth cd H locs ls hF hW hL) (fun q => kf q g p e s m args below meth cd H locs ls hF hW hL)
theorem V_icmp_eq {off : Int} {x y : Int32} (hd : Dj (M_c μ) pc (.if_icmp .eq off) 3 npc off tgt) (kt : x = y → V E μ K tgt L st h c) (kf : ¬ x = y → V E μ K npc L st h c) : V E μ K pc L (.int y :: .int x :: st) h c := by
  obtain ⟨hdg, rfl, ht⟩ := hd
  intro g p e s m args below meth cd H locs ls hF hW hL
  exact lv_icmp_eq hF.1 hF.2.1 hdg ht (fun q => kt q g p e s m args below meth cd H locs ls hF hW hL) (fun q => kf q g p e s m args below meth cd H locs ls hF hW hL)
theorem V_icmp_ne {off : Int} {x y : Int32} (hd : Dj (M_c μ) pc (.if_icmp .ne off) 3 npc off tgt) (kt : ¬ x = y → V E μ K tgt L st h c) (kf : x = y → V E μ K npc L st h c) : V E μ K pc L (.int y :: .int x :: st) h c := by
  obtain ⟨hdg, rfl, ht⟩ := hd
  intro g p e s m args below meth cd H locs ls hF hW hL
  exact lv_icmp_ne hF.1 hF.2.1 hdg ht (fun q => kt q g p e s m args below meth cd H locs ls hF hW hL) (fun q => kf q g p e s m args below meth cd H locs ls hF hW hL)
theorem V_icmp_lt {off : Int} {x y : Int32} (hd : Dj (M_c μ) pc (.if_icmp .lt off) 3 npc off tgt) (kt : x < y → V E μ K tgt L st h c) (kf : ¬ x < y → V E μ K npc L st h c) : V E μ K pc L (.int y :: .int x :: st) h c := by
  obtain ⟨hdg, rfl, ht⟩ := hd
  intro g p e s m args below meth cd H locs ls hF hW hL
  exact lv_icmp_lt hF.1 hF.2.1 hdg ht (fun q => kt q g p e s m args below meth cd H locs ls hF hW hL) (fun q => kf q g p e s m args below meth cd H locs ls hF hW hL)
theorem V_icmp_ge {off : Int} {x y : Int32} (hd : Dj (M_c μ) pc (.if_icmp .ge off) 3 npc off tgt) (kt : y ≤ x → V E μ K tgt L st h c) (kf : ¬ y ≤ x → V E μ K npc L st h c) : V E μ K pc L (.int y :: .int x :: st) h c := by
  obtain ⟨hdg, rfl, ht⟩ := hd
  intro g p e s m args below meth cd H locs ls hF hW hL
  exact lv_icmp_ge hF.1 hF.2.1 hdg ht (fun q => kt q g p e s m args below meth cd H locs ls hF hW hL) (fun q => kf q g p e s m args below meth cd H locs ls hF hW hL)
theorem V_icmp_gt {off : Int} {x y : Int32} (hd : Dj (M_c μ) pc (.if_icmp .gt off) 3 npc off tgt) (kt : y < x → V E μ K tgt L st h c) (kf : ¬ y < x → V E μ K npc L st h c) : V E μ K pc L (.int y :: .int x :: st) h c := by
  obtain ⟨hdg, rfl, ht⟩ := hd
  intro g p e s m args below meth cd H locs ls hF hW hL
  exact lv_icmp_gt hF.1 hF.2.1 hdg ht (fun q => kt q g p e s m args below meth cd H locs ls hF hW hL) (fun q => kf q g p e s m args below meth cd H locs ls hF hW hL)
theorem V_icmp_le {off : Int} {x y : Int32} (hd : Dj (M_c μ) pc (.if_icmp .le off) 3 npc off tgt) (kt : x ≤ y → V E μ K tgt L st h c) (kf : ¬ x ≤ y → V E μ K npc L st h c) : V E μ K pc L (.int y :: .int x :: st) h c := by
  obtain ⟨hdg, rfl, ht⟩ := hd
  intro g p e s m args below meth cd H locs ls hF hW hL
  exact lv_icmp_le hF.1 hF.2.1 hdg ht (fun q => kt q g p e s m args below meth cd H locs ls hF hW hL) (fun q => kf q g p e s m args below meth cd H locs ls hF hW hL)

end VR
end
section
theorem u_good {C : String} {T : u_T} {N : Nat} : ∀ w ∈ u_ws C T N, goodWord w = true := by
  intro w hw
  obtain ⟨k, -, rfl⟩ := List.mem_map.mp hw
  unfold u_lay
  split <;> rfl
theorem u_inG {ci : Nat} {q : vw_C} (h : CLS[ci]? = some q) : ∀ w ∈ u_ws q.1 q.2.1 q.2.2, w ∈ gtb := fun w hw => List.mem_filter.mpr ⟨u_in h w hw, u_good w hw⟩
theorem g_mem {w : Cond} (i : Nat) (h : lw_tbl[i]? = some w) (hg : goodWord w = true) : w ∈ gtb := List.mem_filter.mpr ⟨List.mem_of_getElem? h, hg⟩
theorem g_goodIn {w : Cond} (hw : w ∈ gtb) : GoodIn gtb (w :: gtb) := by
  intro x hx
  have h1 : x ∈ gtb := by
    rcases List.mem_cons.mp hx with e | e
    · rw [e]; exact hw
    · exact e
  exact ⟨h1, good_of_word (List.mem_filter.mp h1).2⟩
/-- a field of a class, as a class file's entry names it -/
def FL (own : String) (idx ci j : Nat) : Prop := ∃ q : vw_C, CLS[ci]? = some q ∧ j < q.2.2 ∧ Cond.fieldLink own idx (q.2.1 j).1 (q.2.1 j).2.1 (q.2.1 j).2.2.1 ∈ gtb
def FP (own : String) (idx ci j : Nat) (ty : FieldType) : Prop := ∃ q : vw_C, CLS[ci]? = some q ∧ j < q.2.2 ∧ Cond.fieldLink own idx (q.2.1 j).1 (q.2.1 j).2.1 (q.2.1 j).2.2.1 ∈ gtb ∧ (q.2.1 j).2.2.2 = false ∧ parseFieldDescriptor (q.2.1 j).2.2.1 = some ty ∧ True
def FF (own : String) (idx ci j : Nat) (ty : FieldType) : Prop := ∃ q : vw_C, CLS[ci]? = some q ∧ j < q.2.2 ∧ Cond.fieldLink own idx (q.2.1 j).1 (q.2.1 j).2.1 (q.2.1 j).2.2.1 ∈ gtb ∧ (q.2.1 j).2.2.2 = true ∧ parseFieldDescriptor (q.2.1 j).2.2.1 = some ty ∧ (q.2.1 j).1 = own
/-- a type of references -/
def aRf (ty : FieldType) : Bool := match ty with
  | .object _ => true
  | .array _ => true
  | _ => false
theorem aRf_n {ty : FieldType} {a : Nat} (h : aRf ty = true) : narrow ty (.ref a) = .ref a := by
  cases ty <;> first | rfl | cases h
theorem aRf_f {ty : FieldType} {a : Nat} (h : aRf ty = true) : fits ty (.ref a) = true := by
  cases ty <;> first | rfl | cases h
/-- a method that the tables have -/
def okM (μ : aM) : Prop := plainName (M_y μ).cls = true ∧ Cond.code (M_y μ) (M_c μ) (M_L μ) (M_r μ) ∈ gtb ∧ Cond.initialized (M_y μ).cls ∈ gtb ∧ ((M_y μ).cls ≠ "java/lang/invoke/MethodHandle" ∧ (M_y μ).cls ≠ "java/lang/invoke/VarHandle" ∧ (parseMethodDescriptor (M_y μ).desc).map (fun d => d.parameters.length) = some (M_n μ))
def okV (own : String) (idx : Nat) (μ : aM) : Prop := okM μ ∧ Cond.methodLink own idx (M_y μ) ∈ gtb ∧ Cond.instanceMethod (M_y μ) ∈ gtb ∧ Cond.selects (M_y μ).cls (M_y μ) (M_y μ) ∈ gtb
def okS (own : String) (idx : Nat) (μ : aM) : Prop := okM μ ∧ Cond.methodLink own idx (M_y μ) ∈ gtb ∧ Cond.static (M_y μ) ∈ gtb
def okI (own : String) (idx : Nat) (μ : aM) : Prop := okM μ ∧ Cond.methodLink own idx (M_y μ) ∈ gtb ∧ Cond.instanceMethod (M_y μ) ∈ gtb ∧ (M_y μ).name = "<init>"
/-- the callee's room fits -/
def rmok (R : Room) (μ : aM) (c : Nat × Nat) : Bool := Nat.ble ((M_R μ).frames + 1) R.frames && (Nat.ble (8 + (M_L μ + 11) + (M_R μ).locals) R.locals && (Nat.ble (c.1 + (M_R μ).cells) R.cells && Nat.ble (c.2 + (M_R μ).slots) R.slots))
theorem rmok_spec {R : Room} {μ : aM} {c : Nat × Nat} (h : rmok R μ c = true) : ((M_R μ).frames + 1 ≤ R.frames ∧ 8 + (M_L μ + 11) + (M_R μ).locals ≤ R.locals) ∧ (c.1 + (M_R μ).cells ≤ R.cells ∧ c.2 + (M_R μ).slots ≤ R.slots) := by
  simp only [rmok, Bool.and_eq_true, Nat.ble_eq] at h
  exact ⟨⟨h.1, h.2.1⟩, h.2.2⟩
def aPre (E : aE) (g : aG) (h : aH) (U : State) : Prop := va_P g.1 CLS (cw g h) U.heap ∧ va_K g.1 CLS (aT g) U ∧ U.heap.size = g.2.2.1 + h.1.length ∧ aX E g U
/-- A METHOD'S CONTRACT: from these arguments and this heap it returns, and answer and heap are as K says -/
def Call (E : aE) (μ : aM) (avs : List Value) (h : aH) (K : Value → aH → Prop) : Prop :=
  ∀ g : aG, Met E.1 (M_y μ) (.code (M_y μ) (M_c μ) (M_L μ) (M_r μ) :: gtb) (M_R μ) (va_Pc (avs.map (cv g)) (aPre E g h)) (rQ μ K g) (M_R μ).cells (M_R μ).slots (aA g)
theorem aPre_blind {E : aE} {g : aG} {h : aH} {av : List Value} : FrameBlind (va_Pc av (aPre E g h)) := fun a U f mk q => ⟨q.1, q.2.1, va_K.moved (u := U) (U := U.calling f mk a) (Vm.Alike.refl U.vm) q.2.2.1, q.2.2.2.1, aX_calling q.2.2.2.2⟩
theorem aW_size {g : aG} {h : aH} {H : Heap} {s : State} {locs : List Loc} {c : Nat × Nat} (hW : aW g h H s locs c) (hz : H.size ≤ s.heap.size + c.1) (hb : g.2.2.1 ≤ s.heap.size) : H.size = g.2.2.1 + h.1.length := by
  obtain ⟨h1, h2, h3⟩ := hW
  have : g.2.2.1 + h.1.length ≤ H.size := by
    cases hl : h.1.length with
    | zero => have := h2.1; omega
    | succ n =>
      have hx : h.1[n]? = some (h.1[n]'(by omega)) := List.getElem?_eq_getElem _
      have := (h1 n _ (cw_at hx)).lt
      simp only at this
      omega
  omega
theorem aPre_of {E : aE} {g : aG} {μ : aM} {p : Program} {s : State} {m : MethodId} {args : Array Value} {meth : Method} {c : Code} {h : aH} {H : Heap} {locs : List Loc} {c' : Nat × Nat} (hF : aF E g μ p s m args meth c) (hW : aW g h H s locs c') (hsz : H.size = g.2.2.1 + h.1.length) (av : List Value) : ∀ U : State, U.heap = H → s.WarmedH U.vm → va_Pc av (aPre E g h) av.toArray U :=
  fun U hU hw => ⟨rfl, by rw [hU]; exact hW.1, va_K.moved hw.alike (F_k hF), by rw [hU]; exact hsz, aX_moved (F_X hF) (F_b hF) hW.2.1 hw hU⟩
theorem map_cat {g : aG} (hc : ∀ j, (g.2.2.2 j).category = 1) (st : List Value) : ((st.map (cv g)).map fun v => v.category).sum = (st.map fun v => v.category).sum := by
  rw [List.map_map]
  congr 1
  apply List.map_congr_left
  intro v _
  exact cv_cat hc v
def stW (st : List Value) : Bool := Nat.ble ((st.map fun v => v.category).sum) 8
theorem stW_spec {g : aG} (hc : ∀ j, (g.2.2.2 j).category = 1) {st : List Value} (h : stW st = true) : 2 * 0 + ((st.map (cv g)).map fun v => v.category).sum ≤ 8 := by
  rw [map_cat hc]
  simp only [stW, Nat.ble_eq] at h
  omega
def cpok (R : Room) (st : List Value) : Bool := Nat.ble 1 R.frames && Nat.ble ((st.map fun v => v.category).sum + (nativeFrameWords "java/lang/System" "arraycopy" 5 + 11)) R.locals
theorem cpok_spec {g : aG} (hc : ∀ j, (g.2.2.2 j).category = 1) {R : Room} {st : List Value} (h : cpok R st = true) : 1 ≤ R.frames ∧ ((st.map (cv g)).map fun v => v.category).sum + (nativeFrameWords "java/lang/System" "arraycopy" 5 + 11) ≤ R.locals := by
  rw [map_cat hc]
  simp only [cpok, Bool.and_eq_true, Nat.ble_eq] at h
  exact h
theorem W_size {p : Program} {l : Launch} {e : Env} {R : Room} {s : State} {m : MethodId} {args : Array Value} {below : List Frame} {meth : Method} {c : Code} {H : Heap} {locs : List Loc} {cells slots : Nat} {Q : State → Prop} {g : JFrame} (k : H.size ≤ s.heap.size + cells → W p l e R s m args below meth c H locs cells slots Q g) : W p l e R s m args below meth c H locs cells slots Q g :=
  fun T hT X => k (by rw [← hT]; exact X.heapSize) T hT X
theorem va_Run.mono {p : Program} {l : Launch} {e : Env} {R : Room} {s : State} {m : MethodId} {args : Array Value} {below : List Frame} {meth : Method} {c : Code} {H : Heap} {locs : List Loc} {cells slots mc ms : Nat} {g : JFrame} {rest : List Value} {Qa Qb : State → Outcome → State → Prop} {free : Addr → Prop} (h : va_Run p l e R s m args below meth c H locs cells slots mc ms g rest Qa free) (hq : ∀ (st : State) (oc : Outcome) (t : State), st.heap = H → Qa st oc t → Qb st oc t) : va_Run p l e R s m args below meth c H locs cells slots mc ms g rest Qb free := by
  intro T hT X
  obtain ⟨v, st₀, t, T', L, h0, X', hL, e1, e2, q, st⟩ := h T hT X
  exact ⟨v, st₀, t, T', L, h0, X', hL, e1, e2, hq _ _ _ h0 q, st⟩
theorem rQ_0 {μ : aM} {K : Value → aH → Prop} {g : aG} {a : Array Value} {s0 t : State} {oc : Outcome} {H : Heap} (hk : M_k μ = 0) (e : s0.heap = H) (h : rQ μ K g a s0 oc t) : va_Qv (fun u => K .null u ∧ H.size + (M_R μ).cells = g.2.2.1 + u.1.length) (aB g) (aA g) a s0 oc t := by
  unfold rQ at h; rw [hk] at h; subst e; exact h
theorem rQ_1 {μ : aM} {K : Value → aH → Prop} {g : aG} {a : Array Value} {s0 t : State} {oc : Outcome} {H : Heap} (hk : M_k μ = 1) (e : s0.heap = H) (h : rQ μ K g a s0 oc t) : va_Qi (fun r u => K (.int r) u ∧ H.size + (M_R μ).cells = g.2.2.1 + u.1.length) (aB g) (aA g) a s0 oc t := by
  unfold rQ at h; rw [hk] at h; subst e; exact h
theorem rQ_2 {μ : aM} {K : Value → aH → Prop} {g : aG} {a : Array Value} {s0 t : State} {oc : Outcome} {H : Heap} (hk : M_k μ = 2) (e : s0.heap = H) (h : rQ μ K g a s0 oc t) : va_Ql (fun r u => K (.long r) u ∧ H.size + (M_R μ).cells = g.2.2.1 + u.1.length) (aB g) (aA g) a s0 oc t := by
  unfold rQ at h; rw [hk] at h; subst e; exact h
theorem w_cpN : Cond.native arraycopyName ∈ gtb := g_mem 633 (by decide +kernel) rfl
theorem w_cpS : Cond.static arraycopyName ∈ gtb := g_mem 632 (by decide +kernel) rfl
theorem w_cpI : Cond.initialized "java/lang/System" ∈ gtb := g_mem 91 (by decide +kernel) rfl

section VR
variable {E : aE} {μ : aM} {K : Value → aH → Prop} {pc npc tgt : Nat} {L : List Value} {st : List Value} {h : aH} {c : Nat × Nat}
theorem V_getI {a idx ci j : Nat} {fs : List Nat} (hd : Dc (M_c μ) pc (.getfield idx) 3 npc) (hf : FL (M_y μ).cls idx ci j) (hs : h.1[a]? = some (.inr (ci, fs))) (hc : fs[j]? = some (0)) (k : V E μ K npc L (.int (h.2.1 a j) :: st) h c) : V E μ K pc L (.ref a :: st) h c := by
  obtain ⟨hdg, rfl⟩ := hd
  obtain ⟨⟨C, T, N⟩, hq, hj, hw⟩ := hf
  intro g p e s m args below meth cd H locs ls hF hW hL
  exact va_get (cl := CLS) (tys := aT g) (D := g.1) (ci := ci) (C := C) (T := T) (N := N) hF.1 hF.2.1 (F_w hF) (u_inG hq) (F_o hF) (F_k hF) hW.1 a (cw_O hs) hq j hj (F_w hF _ hw) (fun _ z => z) (cfs_at hc) hdg (k g p e s m args below meth cd H locs ls hF hW hL)
theorem V_getJ {a idx ci j : Nat} {fs : List Nat} (hd : Dc (M_c μ) pc (.getfield idx) 3 npc) (hf : FL (M_y μ).cls idx ci j) (hs : h.1[a]? = some (.inr (ci, fs))) (hc : fs[j]? = some (1)) (k : V E μ K npc L (.long (h.2.2 a j) :: st) h c) : V E μ K pc L (.ref a :: st) h c := by
  obtain ⟨hdg, rfl⟩ := hd
  obtain ⟨⟨C, T, N⟩, hq, hj, hw⟩ := hf
  intro g p e s m args below meth cd H locs ls hF hW hL
  exact va_get (cl := CLS) (tys := aT g) (D := g.1) (ci := ci) (C := C) (T := T) (N := N) hF.1 hF.2.1 (F_w hF) (u_inG hq) (F_o hF) (F_k hF) hW.1 a (cw_O hs) hq j hj (F_w hF _ hw) (fun _ z => z) (cfs_at hc) hdg (k g p e s m args below meth cd H locs ls hF hW hL)
theorem V_getR {a idx ci j b : Nat} {fs : List Nat} (hd : Dc (M_c μ) pc (.getfield idx) 3 npc) (hf : FL (M_y μ).cls idx ci j) (hs : h.1[a]? = some (.inr (ci, fs))) (hc : fs[j]? = some (b + 3)) (k : V E μ K npc L (.ref b :: st) h c) : V E μ K pc L (.ref a :: st) h c := by
  obtain ⟨hdg, rfl⟩ := hd
  obtain ⟨⟨C, T, N⟩, hq, hj, hw⟩ := hf
  intro g p e s m args below meth cd H locs ls hF hW hL
  exact va_get (cl := CLS) (tys := aT g) (D := g.1) (ci := ci) (C := C) (T := T) (N := N) hF.1 hF.2.1 (F_w hF) (u_inG hq) (F_o hF) (F_k hF) hW.1 a (cw_O hs) hq j hj (F_w hF _ hw) (fun _ z => z) (cfs_at hc) hdg (k g p e s m args below meth cd H locs ls hF hW hL)
theorem V_putI {a idx ci j : Nat} {fs : List Nat} {v : Int32} (hd : Dc (M_c μ) pc (.putfield idx) 3 npc) (hf : FP (M_y μ).cls idx ci j .int) (hs : h.1[a]? = some (.inr (ci, fs))) (hc : fs[j]? = some 0) (k : V E μ K npc L st (hI h a j v) c) : V E μ K pc L (.int v :: .ref a :: st) h c := by
  obtain ⟨hdg, rfl⟩ := hd
  obtain ⟨⟨C, T, N⟩, hq, hj, hw, hfin, hty, hdc⟩ := hf
  intro g p e s m args below meth cd H locs ls hF hW hL
  refine va_put (cl := CLS) (tys := aT g) (D := g.1) (ci := ci) (C := C) (T := T) (N := N) (A := aA g) hF.1 hF.2.1 (F_w hF) (u_inG hq) (tyOf ci) (u_ty hq) (u_nm hq) (F_o hF) (F_k hF) hW.1 (cw_D g h) hW.2.1 a (cw_O hs) hq j hj (F_w hF _ hw) (fun _ z => z) hfin hty rfl rfl (by rw [cfs_len]; exact (List.getElem?_eq_some_iff.mp hc).1) hdg (fun H1 locs1 q1 q2 q3 => ?_)
  rw [show cv g (.int v) = .int v from rfl, cw_putI hs hc] at q1
  exact k g p e s m args below meth cd H1 locs1 ls hF ⟨q1, q3, by first | exact hW.2.2 | (rw [hR_len]; exact hW.2.2)⟩ hL
theorem V_putZ {a idx ci j : Nat} {fs : List Nat} {v : Int32} (hd : Dc (M_c μ) pc (.putfield idx) 3 npc) (hf : FP (M_y μ).cls idx ci j .boolean) (hv : v = 0 ∨ v = 1) (hs : h.1[a]? = some (.inr (ci, fs))) (hc : fs[j]? = some 0) (k : V E μ K npc L st (hI h a j v) c) : V E μ K pc L (.int v :: .ref a :: st) h c := by
  obtain ⟨hdg, rfl⟩ := hd
  obtain ⟨⟨C, T, N⟩, hq, hj, hw, hfin, hty, hdc⟩ := hf
  intro g p e s m args below meth cd H locs ls hF hW hL
  refine va_put (cl := CLS) (tys := aT g) (D := g.1) (ci := ci) (C := C) (T := T) (N := N) (A := aA g) hF.1 hF.2.1 (F_w hF) (u_inG hq) (tyOf ci) (u_ty hq) (u_nm hq) (F_o hF) (F_k hF) hW.1 (cw_D g h) hW.2.1 a (cw_O hs) hq j hj (F_w hF _ hw) (fun _ z => z) hfin hty (by rcases hv with rfl | rfl <;> rfl) (by rcases hv with rfl | rfl <;> rfl) (by rw [cfs_len]; exact (List.getElem?_eq_some_iff.mp hc).1) hdg (fun H1 locs1 q1 q2 q3 => ?_)
  rw [show cv g (.int v) = .int v from rfl, cw_putI hs hc] at q1
  exact k g p e s m args below meth cd H1 locs1 ls hF ⟨q1, q3, by first | exact hW.2.2 | (rw [hR_len]; exact hW.2.2)⟩ hL
theorem V_putJ {a idx ci j : Nat} {fs : List Nat} {v : Int64} (hd : Dc (M_c μ) pc (.putfield idx) 3 npc) (hf : FP (M_y μ).cls idx ci j .long) (hs : h.1[a]? = some (.inr (ci, fs))) (hc : fs[j]? = some 1) (k : V E μ K npc L st (hJ h a j v) c) : V E μ K pc L (.long v :: .ref a :: st) h c := by
  obtain ⟨hdg, rfl⟩ := hd
  obtain ⟨⟨C, T, N⟩, hq, hj, hw, hfin, hty, hdc⟩ := hf
  intro g p e s m args below meth cd H locs ls hF hW hL
  refine va_put (cl := CLS) (tys := aT g) (D := g.1) (ci := ci) (C := C) (T := T) (N := N) (A := aA g) hF.1 hF.2.1 (F_w hF) (u_inG hq) (tyOf ci) (u_ty hq) (u_nm hq) (F_o hF) (F_k hF) hW.1 (cw_D g h) hW.2.1 a (cw_O hs) hq j hj (F_w hF _ hw) (fun _ z => z) hfin hty rfl rfl (by rw [cfs_len]; exact (List.getElem?_eq_some_iff.mp hc).1) hdg (fun H1 locs1 q1 q2 q3 => ?_)
  rw [show cv g (.long v) = .long v from rfl, cw_putJ hs hc] at q1
  exact k g p e s m args below meth cd H1 locs1 ls hF ⟨q1, q3, by first | exact hW.2.2 | (rw [hR_len]; exact hW.2.2)⟩ hL
theorem V_putFI {a idx ci j : Nat} {fs : List Nat} {v : Int32} (hd : Dc (M_c μ) pc (.putfield idx) 3 npc) (hf : FF (M_y μ).cls idx ci j .int) (hin : (M_y μ).name = "<init>") (hs : h.1[a]? = some (.inr (ci, fs))) (hc : fs[j]? = some 0) (k : V E μ K npc L st (hI h a j v) c) : V E μ K pc L (.int v :: .ref a :: st) h c := by
  obtain ⟨hdg, rfl⟩ := hd
  obtain ⟨⟨C, T, N⟩, hq, hj, hw, hfin, hty, hdc⟩ := hf
  intro g p e s m args below meth cd H locs ls hF hW hL
  refine va_putF (cl := CLS) (tys := aT g) (D := g.1) (ci := ci) (C := C) (T := T) (N := N) (A := aA g) hF.1 hF.2.1 (F_w hF) (u_inG hq) (tyOf ci) (u_ty hq) (u_nm hq) (F_o hF) (F_k hF) hW.1 (cw_D g h) hW.2.1 a (cw_O hs) hq j hj (F_w hF _ hw) (fun _ z => z) hfin (hF.2.2.2.2.2.1.trans hin) hdc hty rfl rfl (by rw [cfs_len]; exact (List.getElem?_eq_some_iff.mp hc).1) hdg (fun H1 locs1 q1 q2 q3 => ?_)
  rw [show cv g (.int v) = .int v from rfl, cw_putI hs hc] at q1
  exact k g p e s m args below meth cd H1 locs1 ls hF ⟨q1, q3, by first | exact hW.2.2 | (rw [hR_len]; exact hW.2.2)⟩ hL
theorem V_putFR {a idx ci j w : Nat} {ty : FieldType} {fs : List Nat} {v : Nat} (hd : Dc (M_c μ) pc (.putfield idx) 3 npc) (hf : FF (M_y μ).cls idx ci j ty) (hin : (M_y μ).name = "<init>") (ht : aRf ty = true) (hs : h.1[a]? = some (.inr (ci, fs))) (hc : fs[j]? = some w) (k : V E μ K npc L st (hR h a j (v + 3)) c) : V E μ K pc L (.ref v :: .ref a :: st) h c := by
  obtain ⟨hdg, rfl⟩ := hd
  obtain ⟨⟨C, T, N⟩, hq, hj, hw, hfin, hty, hdc⟩ := hf
  intro g p e s m args below meth cd H locs ls hF hW hL
  refine va_putF (cl := CLS) (tys := aT g) (D := g.1) (ci := ci) (C := C) (T := T) (N := N) (A := aA g) hF.1 hF.2.1 (F_w hF) (u_inG hq) (tyOf ci) (u_ty hq) (u_nm hq) (F_o hF) (F_k hF) hW.1 (cw_D g h) hW.2.1 a (cw_O hs) hq j hj (F_w hF _ hw) (fun _ z => z) hfin (hF.2.2.2.2.2.1.trans hin) hdc hty (aRf_n ht) (aRf_f ht) (by rw [cfs_len]; exact (List.getElem?_eq_some_iff.mp hc).1) hdg (fun H1 locs1 q1 q2 q3 => ?_)
  rw [show cv g (.ref v) = .ref (g.2.2.1 + v) from rfl, cw_putR hs (List.getElem?_eq_some_iff.mp hc).1] at q1
  exact k g p e s m args below meth cd H1 locs1 ls hF ⟨q1, q3, by first | exact hW.2.2 | (rw [hR_len]; exact hW.2.2)⟩ hL
theorem V_iald {a n : Nat} {rs : List Nat} {i : Int32} (hd : Dc (M_c μ) pc .iaload 1 npc) (hs : h.1[a]? = some (.inl (0, n, rs))) (hi : vp_in i n) (k : V E μ K npc L (.int (h.2.1 a i.toNatClampNeg) :: st) h c) : V E μ K pc L (.int i :: .ref a :: st) h c := by
  obtain ⟨hdg, rfl⟩ := hd
  intro g p e s m args below meth cd H locs ls hF hW hL
  exact va_iald hF.1 hF.2.1 (F_k hF) hW.1 a 0 (cw_I hs (by decide)) rfl hi hdg (k g p e s m args below meth cd H locs ls hF hW hL)
theorem V_bald {a n : Nat} {rs : List Nat} {i : Int32} (hd : Dc (M_c μ) pc .baload 1 npc) (hs : h.1[a]? = some (.inl (1, n, rs))) (hi : vp_in i n) (k : V E μ K npc L (.int (h.2.1 a i.toNatClampNeg) :: st) h c) : V E μ K pc L (.int i :: .ref a :: st) h c := by
  obtain ⟨hdg, rfl⟩ := hd
  intro g p e s m args below meth cd H locs ls hF hW hL
  exact va_bald hF.1 hF.2.1 (F_k hF) hW.1 a 1 (cw_I hs (by decide)) rfl hi hdg (k g p e s m args below meth cd H locs ls hF hW hL)
theorem V_zald {a n : Nat} {rs : List Nat} {i : Int32} (hd : Dc (M_c μ) pc .baload 1 npc) (hs : h.1[a]? = some (.inl (2, n, rs))) (hi : vp_in i n) (k : V E μ K npc L (.int (h.2.1 a i.toNatClampNeg) :: st) h c) : V E μ K pc L (.int i :: .ref a :: st) h c := by
  obtain ⟨hdg, rfl⟩ := hd
  intro g p e s m args below meth cd H locs ls hF hW hL
  exact va_zald hF.1 hF.2.1 (F_k hF) hW.1 a 2 (cw_I hs (by decide)) rfl hi hdg (k g p e s m args below meth cd H locs ls hF hW hL)
theorem V_lald {a n : Nat} {rs : List Nat} {i : Int32} (hd : Dc (M_c μ) pc .laload 1 npc) (hs : h.1[a]? = some (.inl (3, n, rs))) (hi : vp_in i n) (k : V E μ K npc L (.long (h.2.2 a i.toNatClampNeg) :: st) h c) : V E μ K pc L (.int i :: .ref a :: st) h c := by
  obtain ⟨hdg, rfl⟩ := hd
  intro g p e s m args below meth cd H locs ls hF hW hL
  exact va_lald hF.1 hF.2.1 (F_k hF) hW.1 a 3 (cw_J hs) rfl hi hdg (k g p e s m args below meth cd H locs ls hF hW hL)
theorem V_aald0 {a n b : Nat} {rs : List Nat} {i : Int32} (hd : Dc (M_c μ) pc .aaload 1 npc) (hs : h.1[a]? = some (.inl (4, n, rs))) (hi : vp_in i n) (hc : rs.getD i.toNatClampNeg 2 = b + 3) (k : V E μ K npc L (.ref b :: st) h c) : V E μ K pc L (.int i :: .ref a :: st) h c := by
  obtain ⟨hdg, rfl⟩ := hd
  intro g p e s m args below meth cd H locs ls hF hW hL
  refine va_aldq hF.1 hF.2.1 (F_k hF) hW.1 a 4 (cw_Q (t := 0) hs) rfl hi hdg ?_
  have h1 : va_rf (crf g rs i.toNatClampNeg) = .ref (g.2.2.1 + b) := by simp only [crf, hc]; rfl
  rw [h1]
  exact k g p e s m args below meth cd H locs ls hF hW hL
theorem V_aast0 {a n b ci : Nat} {rs fs : List Nat} {i : Int32} (hd : Dc (M_c μ) pc .aastore 1 npc) (hs : h.1[a]? = some (.inl (4, n, rs))) (hb : h.1[b]? = some (.inr (ci, fs))) (hci : CLS[ci]? = some (RX1, TX1, 5)) (hi : vp_in i n) (hr : i.toNatClampNeg < rs.length) (k : V E μ K npc L st (hR h a i.toNatClampNeg (b + 3)) c) : V E μ K pc L (.ref b :: .int i :: .ref a :: st) h c := by
  obtain ⟨hdg, rfl⟩ := hd
  intro g p e s m args below meth cd H locs ls hF hW hL
  refine va_astq (A := aA g) hF.1 hF.2.1 (F_k hF) hW.1 (cw_D g h) hW.2.1 a 4 b ci (cw_Q (t := 0) hs) rfl (cw_O hb) hci hi hdg (fun H1 locs1 q1 q2 q3 => ?_)
  rw [cw_setR hs hr] at q1
  exact k g p e s m args below meth cd H1 locs1 ls hF ⟨q1, q3, by rw [hR_len]; exact hW.2.2⟩ hL
theorem V_aald1 {a n b : Nat} {rs : List Nat} {i : Int32} (hd : Dc (M_c μ) pc .aaload 1 npc) (hs : h.1[a]? = some (.inl (5, n, rs))) (hi : vp_in i n) (hc : rs.getD i.toNatClampNeg 2 = b + 3) (k : V E μ K npc L (.ref b :: st) h c) : V E μ K pc L (.int i :: .ref a :: st) h c := by
  obtain ⟨hdg, rfl⟩ := hd
  intro g p e s m args below meth cd H locs ls hF hW hL
  refine va_aldq hF.1 hF.2.1 (F_k hF) hW.1 a 5 (cw_Q (t := 1) hs) rfl hi hdg ?_
  have h1 : va_rf (crf g rs i.toNatClampNeg) = .ref (g.2.2.1 + b) := by simp only [crf, hc]; rfl
  rw [h1]
  exact k g p e s m args below meth cd H locs ls hF hW hL
theorem V_aast1 {a n b ci : Nat} {rs fs : List Nat} {i : Int32} (hd : Dc (M_c μ) pc .aastore 1 npc) (hs : h.1[a]? = some (.inl (5, n, rs))) (hb : h.1[b]? = some (.inr (ci, fs))) (hci : CLS[ci]? = some (RX6, TX6, 3)) (hi : vp_in i n) (hr : i.toNatClampNeg < rs.length) (k : V E μ K npc L st (hR h a i.toNatClampNeg (b + 3)) c) : V E μ K pc L (.ref b :: .int i :: .ref a :: st) h c := by
  obtain ⟨hdg, rfl⟩ := hd
  intro g p e s m args below meth cd H locs ls hF hW hL
  refine va_astq (A := aA g) hF.1 hF.2.1 (F_k hF) hW.1 (cw_D g h) hW.2.1 a 5 b ci (cw_Q (t := 1) hs) rfl (cw_O hb) hci hi hdg (fun H1 locs1 q1 q2 q3 => ?_)
  rw [cw_setR hs hr] at q1
  exact k g p e s m args below meth cd H1 locs1 ls hF ⟨q1, q3, by rw [hR_len]; exact hW.2.2⟩ hL
theorem V_iast {a n : Nat} {rs : List Nat} {i v : Int32} (hd : Dc (M_c μ) pc .iastore 1 npc) (hs : h.1[a]? = some (.inl (0, n, rs))) (hi : vp_in i n) (k : V E μ K npc L st (hI h a i.toNatClampNeg (v)) c) : V E μ K pc L (.int v :: .int i :: .ref a :: st) h c := by
  obtain ⟨hdg, rfl⟩ := hd
  intro g p e s m args below meth cd H locs ls hF hW hL
  refine va_iast (A := aA g) hF.1 hF.2.1 (F_k hF) hW.1 (cw_D g h) hW.2.1 a 0 (cw_I hs (by decide)) rfl hi hdg (fun H1 locs1 q1 q2 q3 => ?_)
  rw [cw_setI hs (by decide)] at q1
  exact k g p e s m args below meth cd H1 locs1 ls hF ⟨q1, q3, hW.2.2⟩ hL
theorem V_bast {a n : Nat} {rs : List Nat} {i v : Int32} (hd : Dc (M_c μ) pc .bastore 1 npc) (hs : h.1[a]? = some (.inl (1, n, rs))) (hi : vp_in i n) (k : V E μ K npc L st (hI h a i.toNatClampNeg (vp_nar .byte v)) c) : V E μ K pc L (.int v :: .int i :: .ref a :: st) h c := by
  obtain ⟨hdg, rfl⟩ := hd
  intro g p e s m args below meth cd H locs ls hF hW hL
  refine va_bast (A := aA g) hF.1 hF.2.1 (F_k hF) hW.1 (cw_D g h) hW.2.1 a 1 (cw_I hs (by decide)) rfl hi hdg (fun H1 locs1 q1 q2 q3 => ?_)
  rw [cw_setI hs (by decide)] at q1
  exact k g p e s m args below meth cd H1 locs1 ls hF ⟨q1, q3, hW.2.2⟩ hL
theorem V_zast {a n : Nat} {rs : List Nat} {i v : Int32} (hd : Dc (M_c μ) pc .bastore 1 npc) (hs : h.1[a]? = some (.inl (2, n, rs))) (hi : vp_in i n) (k : V E μ K npc L st (hI h a i.toNatClampNeg (vp_nar .boolean v)) c) : V E μ K pc L (.int v :: .int i :: .ref a :: st) h c := by
  obtain ⟨hdg, rfl⟩ := hd
  intro g p e s m args below meth cd H locs ls hF hW hL
  refine va_zast (A := aA g) hF.1 hF.2.1 (F_k hF) hW.1 (cw_D g h) hW.2.1 a 2 (cw_I hs (by decide)) rfl hi hdg (fun H1 locs1 q1 q2 q3 => ?_)
  rw [cw_setI hs (by decide)] at q1
  exact k g p e s m args below meth cd H1 locs1 ls hF ⟨q1, q3, hW.2.2⟩ hL
theorem V_last {a n : Nat} {rs : List Nat} {i : Int32} {v : Int64} (hd : Dc (M_c μ) pc .lastore 1 npc) (hs : h.1[a]? = some (.inl (3, n, rs))) (hi : vp_in i n) (k : V E μ K npc L st (hJ h a i.toNatClampNeg v) c) : V E μ K pc L (.long v :: .int i :: .ref a :: st) h c := by
  obtain ⟨hdg, rfl⟩ := hd
  intro g p e s m args below meth cd H locs ls hF hW hL
  refine va_last (A := aA g) hF.1 hF.2.1 (F_k hF) hW.1 (cw_D g h) hW.2.1 a 3 (cw_J hs) rfl hi hdg (fun H1 locs1 q1 q2 q3 => ?_)
  rw [cw_setJ hs] at q1
  exact k g p e s m args below meth cd H1 locs1 ls hF ⟨q1, q3, hW.2.2⟩ hL
theorem V_alen {a t n : Nat} {rs : List Nat} {v : Int32} (hd : Dc (M_c μ) pc .arraylength 1 npc) (hs : h.1[a]? = some (.inl (t, n, rs))) (ht : t < 6) (hv : Int32.ofNat n = v) (k : V E μ K npc L (.int v :: st) h c) : V E μ K pc L (.ref a :: st) h c := by
  obtain ⟨hdg, rfl⟩ := hd
  intro g p e s m args below meth cd H locs ls hF hW hL
  obtain ⟨ty, hty⟩ : ∃ ty, (aT g)[t]? = some (g.2.1 t, ty) := by
    match t, ht with
    | 0, _ => exact ⟨_, rfl⟩
    | 1, _ => exact ⟨_, rfl⟩
    | 2, _ => exact ⟨_, rfl⟩
    | 3, _ => exact ⟨_, rfl⟩
    | 4, _ => exact ⟨_, rfl⟩
    | 5, _ => exact ⟨_, rfl⟩
  exact va_alen hF.1 hF.2.1 (F_k hF) hW.1 a t (cw_at hs) hty hv hdg (k g p e s m args below meth cd H locs ls hF hW hL)
theorem V_copyI {a b idx n0 n1 : Nat} {r0 r1 : List Nat} {sp dp n : Int32} (hd : Dc (M_c μ) pc (.invokestatic idx) 3 npc) (hl : Cond.methodLink (M_y μ).cls idx arraycopyName ∈ gtb) (hs0 : h.1[a]? = some (.inl (0, n0, r0))) (hs1 : h.1[b]? = some (.inl (0, n1, r1))) (h1 : ¬ sp < 0) (h2 : ¬ dp < 0) (h3 : ¬ n < 0) (h4 : sp.toNatClampNeg + n.toNatClampNeg ≤ n0) (h5 : dp.toNatClampNeg + n.toNatClampNeg ≤ n1) (hr : cpok (M_R μ) st = true) (k : V E μ K npc L st (hCI h a b sp.toNatClampNeg dp.toNatClampNeg n.toNatClampNeg) c) : V E μ K pc L (.int n :: .int dp :: .ref b :: .int sp :: .ref a :: st) h c := by
  obtain ⟨hdg, rfl⟩ := hd
  intro g p e s m args below meth cd H locs ls hF hW hL
  obtain ⟨r1, r2⟩ := cpok_spec (aX_cat (F_X hF)) hr
  refine va_copyi (A := aA g) hF.1 hF.2.1 (hF.2.2.1.trans hL.1.symm) (F_o hF) (F_w hF _ hl) (F_w hF _ w_cpN) (F_w hF _ w_cpS) (F_w hF _ w_cpI) (F_k hF) hW.1 (cw_D g h) hW.2.1 a b 0 0 (cw_I hs0 (by decide)) (cw_I hs1 (by decide)) rfl rfl rfl h1 h2 h3 h4 h5 (fun _ _ => rfl) r1 r2 hdg (fun H1 locs1 q1 q2 q3 => ?_)
  rw [cw_setCI hs1 (by decide)] at q1
  exact k g p e s m args below meth cd H1 locs1 ls hF ⟨q1, q3, hW.2.2⟩ hL
theorem V_copyJ {a b idx n0 n1 : Nat} {r0 r1 : List Nat} {sp dp n : Int32} (hd : Dc (M_c μ) pc (.invokestatic idx) 3 npc) (hl : Cond.methodLink (M_y μ).cls idx arraycopyName ∈ gtb) (hs0 : h.1[a]? = some (.inl (3, n0, r0))) (hs1 : h.1[b]? = some (.inl (3, n1, r1))) (h1 : ¬ sp < 0) (h2 : ¬ dp < 0) (h3 : ¬ n < 0) (h4 : sp.toNatClampNeg + n.toNatClampNeg ≤ n0) (h5 : dp.toNatClampNeg + n.toNatClampNeg ≤ n1) (hr : cpok (M_R μ) st = true) (k : V E μ K npc L st (hCJ h a b sp.toNatClampNeg dp.toNatClampNeg n.toNatClampNeg) c) : V E μ K pc L (.int n :: .int dp :: .ref b :: .int sp :: .ref a :: st) h c := by
  obtain ⟨hdg, rfl⟩ := hd
  intro g p e s m args below meth cd H locs ls hF hW hL
  obtain ⟨r1, r2⟩ := cpok_spec (aX_cat (F_X hF)) hr
  refine va_copyl (A := aA g) hF.1 hF.2.1 (hF.2.2.1.trans hL.1.symm) (F_o hF) (F_w hF _ hl) (F_w hF _ w_cpN) (F_w hF _ w_cpS) (F_w hF _ w_cpI) (F_k hF) hW.1 (cw_D g h) hW.2.1 a b 3 3 (cw_J hs0) (cw_J hs1) rfl rfl rfl h1 h2 h3 h4 h5 (fun _ _ => rfl) r1 r2 hdg (fun H1 locs1 q1 q2 q3 => ?_)
  rw [cw_setCJ hs1] at q1
  exact k g p e s m args below meth cd H1 locs1 ls hF ⟨q1, q3, hW.2.2⟩ hL

theorem V_callV0 {idx : Nat} {μ2 : aM} {a : Nat} (As : List Value) (hd : Dc (M_c μ) pc (.invokevirtual idx) 3 npc) (ok : okV (M_y μ).cls idx μ2) {ci : Nat} {fs : List Nat} (hs : h.1[a]? = some (.inr (ci, fs))) (hci : (CLS[ci]?).map (fun q => q.1) = some (M_y μ2).cls) (hk : M_k μ2 = 0) (hr : rmok (M_R μ) μ2 c = true) (hn : As.length = M_n μ2) (hst : stW st = true) (k : Call E μ2 (.ref a :: As) h (fun r h2 => V E μ K npc L st h2 (c.1 + (M_R μ2).cells, c.2 + (M_R μ2).slots))) : V E μ K pc L (As.reverse ++ .ref a :: st) h c := by
  obtain ⟨hdg, rfl⟩ := hd
  have hr := rmok_spec hr
  intro g p e s m args below meth cd H locs ls hF hW hL
  refine W_size (fun hz => ?_)
  have hsz := aW_size hW hz (F_b hF)
  have hM := k g
  have hrun := va_runV (S := ⟨hF.1, hF.2.1, hF.2.2.1, F_o hF, F_w hF⟩) (b := g.2.2.1 + a) (C := (M_y μ2).cls) (As := (As.map (cv g))) (rest := st.map (cv g)) (g := F0 m pc ls ((As.reverse ++ .ref a :: st).map (cv g))) (locs := locs) (below := below) (meth := meth) (e := e) (R := M_R μ) (cells := c.1) (slots := c.2) (H := H) hM
    (⟨callB_of (M_n μ2) (F_w hF) (g_goodIn ok.1.2.1) rfl rfl rfl (F_w hF _ ok.1.2.2.1) (F_w hF _ ok.2.1) ok.1.2.2.2 hr.1, F_w hF _ ok.2.2.1, F_w hF _ ok.2.2.2⟩)
    ⟨aPre_blind, by
      obtain ⟨q, hq1, hq2⟩ := Option.map_eq_some_iff.mp hci
      have := va_recv (F_k hF) hW.1 hq1 (cw_O hs)
      rw [hq2] at this
      exact this, aPre_of hF hW hsz ((.ref a :: As).map (cv g))⟩ rfl (by rw [List.length_map]; exact hn) hL.1 (by simp [cv]) (stW_spec (aX_cat (F_X hF)) hst) hdg hr.2
  refine va_callv (hrun.mono (fun s0 oc t e1 hq => rQ_0 hk e1 hq)) hW.2.1 (fun q _ z => z) (fun q z => z) (fun u t H1 locs1 q1 q2 q3 q4 q5 q6 q7 => ?_)
  subst q1
  exact q3.1 g p e s m args below meth cd t.heap locs1 ls hF ⟨q4, q7, by have := q3.2; have := hW.2.2; show s.heap.size + (c.1 + (M_R μ2).cells) = _; omega⟩ hL
theorem V_callV1 {idx : Nat} {μ2 : aM} {a : Nat} (As : List Value) (hd : Dc (M_c μ) pc (.invokevirtual idx) 3 npc) (ok : okV (M_y μ).cls idx μ2) {ci : Nat} {fs : List Nat} (hs : h.1[a]? = some (.inr (ci, fs))) (hci : (CLS[ci]?).map (fun q => q.1) = some (M_y μ2).cls) (hk : M_k μ2 = 1) (hr : rmok (M_R μ) μ2 c = true) (hn : As.length = M_n μ2) (hst : stW st = true) (k : Call E μ2 (.ref a :: As) h (fun r h2 => V E μ K npc L (r :: st) h2 (c.1 + (M_R μ2).cells, c.2 + (M_R μ2).slots))) : V E μ K pc L (As.reverse ++ .ref a :: st) h c := by
  obtain ⟨hdg, rfl⟩ := hd
  have hr := rmok_spec hr
  intro g p e s m args below meth cd H locs ls hF hW hL
  refine W_size (fun hz => ?_)
  have hsz := aW_size hW hz (F_b hF)
  have hM := k g
  have hrun := va_runV (S := ⟨hF.1, hF.2.1, hF.2.2.1, F_o hF, F_w hF⟩) (b := g.2.2.1 + a) (C := (M_y μ2).cls) (As := (As.map (cv g))) (rest := st.map (cv g)) (g := F0 m pc ls ((As.reverse ++ .ref a :: st).map (cv g))) (locs := locs) (below := below) (meth := meth) (e := e) (R := M_R μ) (cells := c.1) (slots := c.2) (H := H) hM
    (⟨callB_of (M_n μ2) (F_w hF) (g_goodIn ok.1.2.1) rfl rfl rfl (F_w hF _ ok.1.2.2.1) (F_w hF _ ok.2.1) ok.1.2.2.2 hr.1, F_w hF _ ok.2.2.1, F_w hF _ ok.2.2.2⟩)
    ⟨aPre_blind, by
      obtain ⟨q, hq1, hq2⟩ := Option.map_eq_some_iff.mp hci
      have := va_recv (F_k hF) hW.1 hq1 (cw_O hs)
      rw [hq2] at this
      exact this, aPre_of hF hW hsz ((.ref a :: As).map (cv g))⟩ rfl (by rw [List.length_map]; exact hn) hL.1 (by simp [cv]) (stW_spec (aX_cat (F_X hF)) hst) hdg hr.2
  refine va_calli (hrun.mono (fun s0 oc t e1 hq => rQ_1 hk e1 hq)) hW.2.1 (fun q _ z => z) (fun q z => z) (fun r u t H1 locs1 q1 q2 q3 q4 q5 q6 q7 => ?_)
  subst q1
  exact q3.1 g p e s m args below meth cd t.heap locs1 ls hF ⟨q4, q7, by have := q3.2; have := hW.2.2; show s.heap.size + (c.1 + (M_R μ2).cells) = _; omega⟩ hL
theorem V_callV2 {idx : Nat} {μ2 : aM} {a : Nat} (As : List Value) (hd : Dc (M_c μ) pc (.invokevirtual idx) 3 npc) (ok : okV (M_y μ).cls idx μ2) {ci : Nat} {fs : List Nat} (hs : h.1[a]? = some (.inr (ci, fs))) (hci : (CLS[ci]?).map (fun q => q.1) = some (M_y μ2).cls) (hk : M_k μ2 = 2) (hr : rmok (M_R μ) μ2 c = true) (hn : As.length = M_n μ2) (hst : stW st = true) (k : Call E μ2 (.ref a :: As) h (fun r h2 => V E μ K npc L (r :: st) h2 (c.1 + (M_R μ2).cells, c.2 + (M_R μ2).slots))) : V E μ K pc L (As.reverse ++ .ref a :: st) h c := by
  obtain ⟨hdg, rfl⟩ := hd
  have hr := rmok_spec hr
  intro g p e s m args below meth cd H locs ls hF hW hL
  refine W_size (fun hz => ?_)
  have hsz := aW_size hW hz (F_b hF)
  have hM := k g
  have hrun := va_runV (S := ⟨hF.1, hF.2.1, hF.2.2.1, F_o hF, F_w hF⟩) (b := g.2.2.1 + a) (C := (M_y μ2).cls) (As := (As.map (cv g))) (rest := st.map (cv g)) (g := F0 m pc ls ((As.reverse ++ .ref a :: st).map (cv g))) (locs := locs) (below := below) (meth := meth) (e := e) (R := M_R μ) (cells := c.1) (slots := c.2) (H := H) hM
    (⟨callB_of (M_n μ2) (F_w hF) (g_goodIn ok.1.2.1) rfl rfl rfl (F_w hF _ ok.1.2.2.1) (F_w hF _ ok.2.1) ok.1.2.2.2 hr.1, F_w hF _ ok.2.2.1, F_w hF _ ok.2.2.2⟩)
    ⟨aPre_blind, by
      obtain ⟨q, hq1, hq2⟩ := Option.map_eq_some_iff.mp hci
      have := va_recv (F_k hF) hW.1 hq1 (cw_O hs)
      rw [hq2] at this
      exact this, aPre_of hF hW hsz ((.ref a :: As).map (cv g))⟩ rfl (by rw [List.length_map]; exact hn) hL.1 (by simp [cv]) (stW_spec (aX_cat (F_X hF)) hst) hdg hr.2
  refine va_calll (hrun.mono (fun s0 oc t e1 hq => rQ_2 hk e1 hq)) hW.2.1 (fun q _ z => z) (fun q z => z) (fun r u t H1 locs1 q1 q2 q3 q4 q5 q6 q7 => ?_)
  subst q1
  exact q3.1 g p e s m args below meth cd t.heap locs1 ls hF ⟨q4, q7, by have := q3.2; have := hW.2.2; show s.heap.size + (c.1 + (M_R μ2).cells) = _; omega⟩ hL
theorem V_callS0 {idx : Nat} {μ2 : aM} (As : List Value) (hd : Dc (M_c μ) pc (.invokestatic idx) 3 npc) (ok : okS (M_y μ).cls idx μ2) (hk : M_k μ2 = 0) (hr : rmok (M_R μ) μ2 c = true) (hn : As.length = M_n μ2) (hst : stW st = true) (k : Call E μ2 (As) h (fun r h2 => V E μ K npc L st h2 (c.1 + (M_R μ2).cells, c.2 + (M_R μ2).slots))) : V E μ K pc L (As.reverse ++ st) h c := by
  obtain ⟨hdg, rfl⟩ := hd
  have hr := rmok_spec hr
  intro g p e s m args below meth cd H locs ls hF hW hL
  refine W_size (fun hz => ?_)
  have hsz := aW_size hW hz (F_b hF)
  have hM := k g
  have hrun := va_runS (S := ⟨hF.1, hF.2.1, hF.2.2.1, F_o hF, F_w hF⟩) (As := (As.map (cv g))) (rest := st.map (cv g)) (g := F0 m pc ls ((As.reverse ++ st).map (cv g))) (locs := locs) (below := below) (meth := meth) (e := e) (R := M_R μ) (cells := c.1) (slots := c.2) (H := H) hM
    (⟨callB_of (M_n μ2) (F_w hF) (g_goodIn ok.1.2.1) rfl rfl rfl (F_w hF _ ok.1.2.2.1) (F_w hF _ ok.2.1) ok.1.2.2.2 hr.1, F_w hF _ ok.2.2⟩)
    ⟨aPre_blind, aPre_of hF hW hsz (As.map (cv g))⟩ rfl (by rw [List.length_map]; exact hn) hL.1 (by simp [cv]) (stW_spec (aX_cat (F_X hF)) hst) hdg hr.2
  refine va_callv (hrun.mono (fun s0 oc t e1 hq => rQ_0 hk e1 hq)) hW.2.1 (fun q _ z => z) (fun q z => z) (fun u t H1 locs1 q1 q2 q3 q4 q5 q6 q7 => ?_)
  subst q1
  exact q3.1 g p e s m args below meth cd t.heap locs1 ls hF ⟨q4, q7, by have := q3.2; have := hW.2.2; show s.heap.size + (c.1 + (M_R μ2).cells) = _; omega⟩ hL
theorem V_callS1 {idx : Nat} {μ2 : aM} (As : List Value) (hd : Dc (M_c μ) pc (.invokestatic idx) 3 npc) (ok : okS (M_y μ).cls idx μ2) (hk : M_k μ2 = 1) (hr : rmok (M_R μ) μ2 c = true) (hn : As.length = M_n μ2) (hst : stW st = true) (k : Call E μ2 (As) h (fun r h2 => V E μ K npc L (r :: st) h2 (c.1 + (M_R μ2).cells, c.2 + (M_R μ2).slots))) : V E μ K pc L (As.reverse ++ st) h c := by
  obtain ⟨hdg, rfl⟩ := hd
  have hr := rmok_spec hr
  intro g p e s m args below meth cd H locs ls hF hW hL
  refine W_size (fun hz => ?_)
  have hsz := aW_size hW hz (F_b hF)
  have hM := k g
  have hrun := va_runS (S := ⟨hF.1, hF.2.1, hF.2.2.1, F_o hF, F_w hF⟩) (As := (As.map (cv g))) (rest := st.map (cv g)) (g := F0 m pc ls ((As.reverse ++ st).map (cv g))) (locs := locs) (below := below) (meth := meth) (e := e) (R := M_R μ) (cells := c.1) (slots := c.2) (H := H) hM
    (⟨callB_of (M_n μ2) (F_w hF) (g_goodIn ok.1.2.1) rfl rfl rfl (F_w hF _ ok.1.2.2.1) (F_w hF _ ok.2.1) ok.1.2.2.2 hr.1, F_w hF _ ok.2.2⟩)
    ⟨aPre_blind, aPre_of hF hW hsz (As.map (cv g))⟩ rfl (by rw [List.length_map]; exact hn) hL.1 (by simp [cv]) (stW_spec (aX_cat (F_X hF)) hst) hdg hr.2
  refine va_calli (hrun.mono (fun s0 oc t e1 hq => rQ_1 hk e1 hq)) hW.2.1 (fun q _ z => z) (fun q z => z) (fun r u t H1 locs1 q1 q2 q3 q4 q5 q6 q7 => ?_)
  subst q1
  exact q3.1 g p e s m args below meth cd t.heap locs1 ls hF ⟨q4, q7, by have := q3.2; have := hW.2.2; show s.heap.size + (c.1 + (M_R μ2).cells) = _; omega⟩ hL
theorem V_callS2 {idx : Nat} {μ2 : aM} (As : List Value) (hd : Dc (M_c μ) pc (.invokestatic idx) 3 npc) (ok : okS (M_y μ).cls idx μ2) (hk : M_k μ2 = 2) (hr : rmok (M_R μ) μ2 c = true) (hn : As.length = M_n μ2) (hst : stW st = true) (k : Call E μ2 (As) h (fun r h2 => V E μ K npc L (r :: st) h2 (c.1 + (M_R μ2).cells, c.2 + (M_R μ2).slots))) : V E μ K pc L (As.reverse ++ st) h c := by
  obtain ⟨hdg, rfl⟩ := hd
  have hr := rmok_spec hr
  intro g p e s m args below meth cd H locs ls hF hW hL
  refine W_size (fun hz => ?_)
  have hsz := aW_size hW hz (F_b hF)
  have hM := k g
  have hrun := va_runS (S := ⟨hF.1, hF.2.1, hF.2.2.1, F_o hF, F_w hF⟩) (As := (As.map (cv g))) (rest := st.map (cv g)) (g := F0 m pc ls ((As.reverse ++ st).map (cv g))) (locs := locs) (below := below) (meth := meth) (e := e) (R := M_R μ) (cells := c.1) (slots := c.2) (H := H) hM
    (⟨callB_of (M_n μ2) (F_w hF) (g_goodIn ok.1.2.1) rfl rfl rfl (F_w hF _ ok.1.2.2.1) (F_w hF _ ok.2.1) ok.1.2.2.2 hr.1, F_w hF _ ok.2.2⟩)
    ⟨aPre_blind, aPre_of hF hW hsz (As.map (cv g))⟩ rfl (by rw [List.length_map]; exact hn) hL.1 (by simp [cv]) (stW_spec (aX_cat (F_X hF)) hst) hdg hr.2
  refine va_calll (hrun.mono (fun s0 oc t e1 hq => rQ_2 hk e1 hq)) hW.2.1 (fun q _ z => z) (fun q z => z) (fun r u t H1 locs1 q1 q2 q3 q4 q5 q6 q7 => ?_)
  subst q1
  exact q3.1 g p e s m args below meth cd t.heap locs1 ls hF ⟨q4, q7, by have := q3.2; have := hW.2.2; show s.heap.size + (c.1 + (M_R μ2).cells) = _; omega⟩ hL
theorem V_callI0 {idx : Nat} {μ2 : aM} {a : Nat} (As : List Value) (hd : Dc (M_c μ) pc (.invokespecial idx) 3 npc) (ok : okI (M_y μ).cls idx μ2) (hret : M_r μ2 = none) (hk : M_k μ2 = 0) (hr : rmok (M_R μ) μ2 c = true) (hn : As.length = M_n μ2) (hst : stW st = true) (k : Call E μ2 (.ref a :: As) h (fun r h2 => V E μ K npc L st h2 (c.1 + (M_R μ2).cells, c.2 + (M_R μ2).slots))) : V E μ K pc L (As.reverse ++ .ref a :: st) h c := by
  obtain ⟨hdg, rfl⟩ := hd
  have hr := rmok_spec hr
  intro g p e s m args below meth cd H locs ls hF hW hL
  refine W_size (fun hz => ?_)
  have hsz := aW_size hW hz (F_b hF)
  have hM := k g
  have hrun := va_runI (S := ⟨hF.1, hF.2.1, hF.2.2.1, F_o hF, F_w hF⟩) (b := g.2.2.1 + a) (As := (As.map (cv g))) (rest := st.map (cv g)) (g := F0 m pc ls ((As.reverse ++ .ref a :: st).map (cv g))) (locs := locs) (below := below) (meth := meth) (e := e) (R := M_R μ) (cells := c.1) (slots := c.2) (H := H) hM
    (⟨callB_of (M_n μ2) (F_w hF) (g_goodIn ok.1.2.1) (by rw [hret]) rfl rfl (F_w hF _ ok.1.2.2.1) (F_w hF _ ok.2.1) ok.1.2.2.2 hr.1, ok.2.2.2, F_w hF _ ok.2.2.1⟩)
    ⟨aPre_blind, aPre_of hF hW hsz ((.ref a :: As).map (cv g))⟩ rfl (by rw [List.length_map]; exact hn) hL.1 (by simp [cv]) (stW_spec (aX_cat (F_X hF)) hst) hdg hr.2
  refine va_callv (hrun.mono (fun s0 oc t e1 hq => rQ_0 hk e1 hq)) hW.2.1 (fun q _ z => z) (fun q z => z) (fun u t H1 locs1 q1 q2 q3 q4 q5 q6 q7 => ?_)
  subst q1
  exact q3.1 g p e s m args below meth cd t.heap locs1 ls hF ⟨q4, q7, by have := q3.2; have := hW.2.2; show s.heap.size + (c.1 + (M_R μ2).cells) = _; omega⟩ hL
end VR
end
section
theorem Met_mono {l : Launch} {y : MethodName} {ws : List Cond} {rm : Room} {Pc : Array Value → State → Prop} {Qc Qd : Array Value → State → Outcome → State → Prop} {mc ms : Nat} {free : Addr → Prop} (h : Met l y ws rm Pc Qc mc ms free) (hq : ∀ a s o t, Qc a s o t → Qd a s o t) : Met l y ws rm Pc Qd mc ms free := by
  intro p e h1 h2 h3 s m args below h4 h5 h6 h7
  obtain ⟨n, o, a1, a2, a3, a4, a5⟩ := h p e h1 h2 h3 s m args below h4 h5 h6 h7
  exact ⟨n, o, a1, a2, a3, hq _ _ _ _ a4, a5⟩
theorem rQ_mono {μ : aM} {K K2 : Value → aH → Prop} {g : aG} {a : Array Value} {s t : State} {oc : Outcome} (hk : ∀ r h, K r h → K2 r h) (h : rQ μ K g a s oc t) : rQ μ K2 g a s oc t := by
  unfold rQ at h ⊢
  split at h
  · obtain ⟨⟨u, h1, h2, h3⟩, h4⟩ := h
    exact ⟨⟨u, h1, ⟨hk _ _ h2.1, h2.2⟩, h3⟩, h4⟩
  · obtain ⟨⟨r, u, h1, h2, h3⟩, h4⟩ := h
    exact ⟨⟨r, u, h1, ⟨hk _ _ h2.1, h2.2⟩, h3⟩, h4⟩
  · obtain ⟨⟨r, u, h1, h2, h3⟩, h4⟩ := h
    exact ⟨⟨r, u, h1, ⟨hk _ _ h2.1, h2.2⟩, h3⟩, h4⟩
theorem Call_mono {E : aE} {μ : aM} {avs : List Value} {h : aH} {K K2 : Value → aH → Prop} (c : Call E μ avs h K) (hk : ∀ r h, K r h → K2 r h) : Call E μ avs h K2 := fun g => Met_mono (c g) (fun _ _ _ _ q => rQ_mono hk q)
/-- the locals at a method's entry -/
def aEnt : List Value → List Value
  | [] => []
  | v :: t => if v.category = 2 then v :: .retAddr 0 :: aEnt t else v :: aEnt t
theorem aEnt_len {g : aG} (hc : ∀ j, (g.2.2.2 j).category = 1) : ∀ vs : List Value, (lg_sl (vs.map (cv g))).length = (aEnt vs).length
  | [] => rfl
  | v :: t => by
    have ih := aEnt_len hc t
    simp only [lg_sl, List.map_cons, List.flatMap_cons, List.length_append, aEnt, cv_cat hc] at ih ⊢
    by_cases h : v.category = 2
    · simp only [h, if_true, List.length_cons, List.length_nil, ih]; omega
    · simp only [h, if_false, List.length_cons, List.length_nil, ih]; omega
theorem aEnt_at {g : aG} (hc : ∀ j, (g.2.2.2 j).category = 1) : ∀ (vs : List Value) (i : Nat) (v : Value), (aEnt vs)[i]? = some v → isJ v = false → (lg_sl (vs.map (cv g)))[i]? = some (.val (cv g v))
  | [], i, v, h, _ => by simp [aEnt] at h
  | w :: t, i, v, h, hj => by
    have ih := aEnt_at hc t
    simp only [lg_sl, List.map_cons, List.flatMap_cons, aEnt, cv_cat hc] at ih h ⊢
    by_cases hw : w.category = 2
    · simp only [hw, if_true] at h ⊢
      match i, h with
      | 0, h => simp at h; subst h; rfl
      | 1, h => simp at h; subst h; cases hj
      | i + 2, h => simp at h; simpa using ih i v h hj
    · simp only [hw, if_false] at h ⊢
      match i, h with
      | 0, h => simp at h; subst h; rfl
      | i + 1, h => simp at h; simpa using ih i v h hj
theorem aL_entry {E : aE} {g : aG} {s : State} (hX : aX E g s) {avs L : List Value} {n : Nat} (hl : aEnt avs ++ List.replicate (n - (aEnt avs).length) (.retAddr 0) = L) (hn : Nat.ble (aEnt avs).length n = true) : aL g L ((lg_sl (avs.map (cv g)) ++ List.replicate (n - (lg_sl (avs.map (cv g))).length) Slot.unset).toArray) n := by
  have hc := aX_cat hX
  have hn := Nat.le_of_ble_eq_true hn
  obtain ⟨h1, h2, -⟩ := lv_entry (avs.map (cv g)) (n := n) (by rw [aEnt_len hc]; exact hn)
  refine ⟨h1, h2, fun i v hv hj => ?_⟩
  subst hl
  rw [List.getElem?_toArray]
  by_cases hi : i < (aEnt avs).length
  · rw [List.getElem?_append_left hi] at hv
    rw [List.getElem?_append_left (by rw [aEnt_len hc]; exact hi)]
    exact aEnt_at hc avs i v hv hj
  · rw [List.getElem?_append_right (by omega), List.getElem?_replicate] at hv
    split at hv
    · cases hv; cases hj
    · cases hv
/-- a contract out of a walk from the entry -/
theorem Call_of {E : aE} {μ : aM} {avs L : List Value} {h : aH} {K : Value → aH → Prop} (hy : plainName (M_y μ).cls = true) (hl : aEnt avs ++ List.replicate (M_L μ - (aEnt avs).length) (.retAddr 0) = L) (hn : Nat.ble (aEnt avs).length (M_L μ) = true) (k : V E μ K 0 L [] h (0, 0)) : Call E μ avs h K := by
  intro g
  refine Met.ofW (cc := M_c μ) (maxL := M_L μ) (ret := M_r μ) hy rfl ?_
  intro p e s m args below meth c s₁ B hml hv
  obtain ⟨rfl, hP, hK, hsz, hX⟩ := hv
  rw [lg_entry_eq]
  have hts := atoms_spec (ws := Cond.code (M_y μ) (M_c μ) (M_L μ) (M_r μ) :: gtb) B.pre
  exact k g p e s m _ below meth c s.heap [] _ ⟨B.exec, B.bytes, hml, B.returns, B.notSynchronized, (name_of_methodNamed B.named B.method).1, findClass_of_methodNamed B.named, fun w hw => hts w (List.mem_cons_of_mem _ hw), hK, by omega, hX⟩ ⟨hP, va_S.rf, by simpa using hsz⟩ (aL_entry hX hl hn)
section VR
variable {E : aE} {μ : aM} {K : Value → aH → Prop} {pc npc tgt : Nat} {L : List Value} {st : List Value} {h : aH} {c : Nat × Nat}
theorem V_iret {v : Int32} (hd : decode (M_c μ) pc = .ok (.ireturn, 1)) (hr : ∃ ty, M_r μ = some ty ∧ narrow ty (.int v) = .int v) (hk : M_k μ = 1) (hc : c = ((M_R μ).cells, (M_R μ).slots)) (k : K (.int v) h) : V E μ K pc L [.int v] h c := by
  subst hc
  obtain ⟨ty, hr1, hr2⟩ := hr
  intro g p e s m args below meth cd H locs ls hF hW hL
  refine W.zret hF.1 hF.2.1 (hF.2.2.2.1.trans hr1) hr2 (fun t ht hw => ?_) (fun q hq => hW.2.1.2.2 q hq) hd hF.2.2.2.2.1
  unfold rQ
  rw [hk]
  exact ⟨⟨v, h, rfl, ⟨k, hW.2.2⟩, by rw [← ht] at hW; exact hW.1⟩, hW.2.1.F ht⟩
theorem V_lret {v : Int64} (hd : decode (M_c μ) pc = .ok (.lreturn, 1)) (hr : M_r μ = some .long) (hk : M_k μ = 2) (hc : c = ((M_R μ).cells, (M_R μ).slots)) (k : K (.long v) h) : V E μ K pc L [.long v] h c := by
  subst hc
  intro g p e s m args below meth cd H locs ls hF hW hL
  refine W.lret hF.1 hF.2.1 (hF.2.2.2.1.trans hr) (fun t ht hw => ?_) (fun q hq => hW.2.1.2.2 q hq) hd hF.2.2.2.2.1
  unfold rQ
  rw [hk]
  exact ⟨⟨v, h, rfl, ⟨k, hW.2.2⟩, by rw [← ht] at hW; exact hW.1⟩, hW.2.1.F ht⟩
theorem V_vret (hd : decode (M_c μ) pc = .ok (.return_, 1)) (hr : M_r μ = none) (hk : M_k μ = 0) (hc : c = ((M_R μ).cells, (M_R μ).slots)) (k : K .null h) : V E μ K pc L [] h c := by
  subst hc
  intro g p e s m args below meth cd H locs ls hF hW hL
  refine W.vret hF.1 hF.2.1 (hF.2.2.2.1.trans hr) (fun t ht hw => ?_) (fun q hq => hW.2.1.2.2 q hq) hd hF.2.2.2.2.1
  unfold rQ
  rw [hk]
  exact ⟨⟨h, rfl, ⟨k, hW.2.2⟩, by rw [← ht] at hW; exact hW.1⟩, hW.2.1.F ht⟩
/-- fewer locals known -/
def lsub : List Value → List Value → Bool
  | [], _ => true
  | v :: t, [] => isJ v && lsub t []
  | v :: t, w :: u => (isJ v || (v == w)) && lsub t u
theorem V_wk {L2 : List Value} (hs : ∀ (i : Nat) (v : Value), L2[i]? = some v → isJ v = false → L[i]? = some v) (k : V E μ K pc L2 st h c) : V E μ K pc L st h c := by
  intro g p e s m args below meth cd H locs ls hF hW hL
  exact k g p e s m args below meth cd H locs ls hF hW ⟨hL.1, hL.2.1, fun i v h1 h2 => hL.2.2 i v (hs i v h1 h2) h2⟩
theorem wk_nil {L : List Value} : ∀ (i : Nat) (v : Value), ([] : List Value)[i]? = some v → isJ v = false → L[i]? = some v := fun i v h => by simp at h
theorem wk_eq {v : Value} {L2 L : List Value} (h : ∀ (i : Nat) (v : Value), L2[i]? = some v → isJ v = false → L[i]? = some v) : ∀ (i : Nat) (w : Value), (v :: L2)[i]? = some w → isJ w = false → (v :: L)[i]? = some w := fun i w h1 h2 => by
  cases i with
  | zero => simpa using h1
  | succ i => simpa using h i w (by simpa using h1) h2
theorem wk_j {n : Nat} {v : Value} {L2 L : List Value} (h : ∀ (i : Nat) (v : Value), L2[i]? = some v → isJ v = false → L[i]? = some v) : ∀ (i : Nat) (w : Value), (.retAddr n :: L2)[i]? = some w → isJ w = false → (v :: L)[i]? = some w := fun i w h1 h2 => by
  cases i with
  | zero => simp at h1; subst h1; cases h2
  | succ i => simpa using h i w (by simpa using h1) h2
/-- Object's constructor -/
def oiok (R : Room) (st : List Value) : Bool := Nat.ble 1 R.frames && Nat.ble ((st.map fun v => v.category).sum + 12) R.locals
theorem w_oI : Cond.instanceMethod Lib.objectInit ∈ gtb := g_mem 98 (by decide +kernel) rfl
theorem w_oC : Cond.code Lib.objectInit ⟨#[0xb1]⟩ 1 none ∈ gtb := g_mem 99 (by decide +kernel) rfl
theorem V_oinit {a idx : Nat} (hd : Dc (M_c μ) pc (.invokespecial idx) 3 npc) (hl : Cond.methodLink (M_y μ).cls idx Lib.objectInit ∈ gtb) (hr : oiok (M_R μ) st = true) (k : V E μ K npc L st h c) : V E μ K pc L (.ref a :: st) h c := by
  obtain ⟨hdg, rfl⟩ := hd
  intro g p e s m args below meth cd H locs ls hF hW hL
  simp only [oiok, Bool.and_eq_true, Nat.ble_eq] at hr
  refine W.objInit (a := g.2.2.1 + a) (rest := st.map (cv g)) hF.1 hF.2.1 (F_o hF) (F_w hF _ hl) (F_w hF _ w_oI) (F_w hF _ w_oC) rfl (hL.1.trans hF.2.2.1.symm) (by simp [cv]) hdg hr.1 ?_ (k g p e s m args below meth cd H locs ls hF hW hL)
  rw [map_cat (aX_cat (F_X hF))]
  simpa using hr.2
theorem new_addr {g : aG} {h : aH} {H H1 : Heap} {s : State} {locs : List Loc} {c : Nat × Nat} {q : Nat} {e : va_E} (hW : aW g h H s locs c) (hz : H1.size ≤ s.heap.size + (c.1 + 1)) (hP : va_P g.1 CLS (cw g h ++ [(q, e)]) H1) (hD : va_D (aA g) (cw g h ++ [(q, e)])) : q = g.2.2.1 + h.1.length := by
  have hl : (cw g h).length = h.1.length := by simp [cw]
  have h0 : (cw g h ++ [(q, e)])[h.1.length]? = some (q, e) := by rw [List.getElem?_append_right (by omega), hl, Nat.sub_self]; rfl
  have h1 : g.2.2.1 ≤ q := hD.2 _ _ h0
  have h2 : q < H1.size := (hP _ _ h0).lt
  have h3 := hW.2.2
  rcases Nat.lt_or_ge q (g.2.2.1 + h.1.length) with h4 | h4
  · have hx : h.1[q - g.2.2.1]? = some (h.1[q - g.2.2.1]'(by omega)) := List.getElem?_eq_getElem _
    have h5 := cw_at (g := g) hx
    have h6 : (cw g h ++ [(q, e)])[q - g.2.2.1]? = some (g.2.2.1 + (q - g.2.2.1), ccell g h (q - g.2.2.1) (h.1[q - g.2.2.1]'(by omega))) := by
      rw [List.getElem?_append_left (by omega)]; exact h5
    have := hD.1 _ _ _ _ h6 h0 (by simp only; omega)
    omega
  · omega
/-- a class's fields at their birth -/
def bfs (ci n : Nat) : List Nat := (List.range n).map (fun j => match tyOf ci j with
  | .long => 1
  | .int => 0
  | .boolean => 0
  | _ => 2)
def bok (ci n : Nat) : Prop := ∀ j, j < n → ∀ (g : aG) (h : aH) (k : Nat), h.2.1 k j = 0 → h.2.2 k j = 0 → defaultValue (tyOf ci j) = vp_V (cfs g h k (bfs ci n)) j
theorem V_new {idx ci n : Nat} {C : String} {T : u_T} (hd : Dc (M_c μ) pc (.new idx) 3 npc) (hc : CLS[ci]? = some (C, T, n)) (hl : Cond.classLink (M_y μ).cls idx C ∈ gtb) (hi : Cond.instantiable C n ∈ gtb) (hn : Cond.initialized C ∈ gtb) (hb : bok ci n) (hr : (Nat.ble (c.1 + 1) (M_R μ).cells && Nat.ble (c.2 + n) (M_R μ).slots) = true) (k : V E μ K npc L (.ref h.1.length :: st) (hN h (.inr (ci, bfs ci n))) (c.1 + 1, c.2 + n)) : V E μ K pc L st h c := by
  obtain ⟨hdg, rfl⟩ := hd
  simp only [Bool.and_eq_true, Nat.ble_eq] at hr
  intro g p e s m args below meth cd H locs ls hF hW hL
  refine va_new (cl := CLS) (tys := aT g) (D := g.1) (A := aA g) (fs := cfs g (hN h (.inr (ci, bfs ci n))) h.1.length (bfs ci n)) hF.1 hF.2.1 (F_w hF) (u_inG hc) (tyOf ci) (u_ty hc) (F_o hF) (F_w hF _ hl) (F_w hF _ hi) (F_w hF _ hn) (F_k hF) hW.1 (cw_D g h) hW.2.1 (fun q hq => Nat.le_trans (F_b hF) hq) hc (fun j hj => hb j hj g _ _ (by simp [hN]) (by simp [hN])) hr.1 hr.2 hdg (fun q H1 q1 q2 q3 => ?_)
  refine W_size (fun hz => ?_)
  have hq := new_addr (locs := locs) hW hz q1 q2
  subst hq
  rw [cw_new (c := .inr (ci, bfs ci n)) (e := .inr (ci, cfs g (hN h (.inr (ci, bfs ci n))) h.1.length (bfs ci n))) rfl] at q1
  exact k g p e s m args below meth cd H1 locs ls hF ⟨q1, q3, by have := hW.2.2; simp only [hN, List.length_append, List.length_cons, List.length_nil]; omega⟩ hL
theorem arr_id {U : State} {a b : ClassId} {ty : FieldType} (ha : va_RA U a ty) (hb : va_RA U b ty) : a = b := by
  cases ty with
  | object C =>
    obtain ⟨_, _, -, -, -, h1⟩ := ha
    obtain ⟨_, _, -, -, -, h2⟩ := hb
    rw [h1] at h2
    exact Option.some.inj h2
  | _ =>
    have h1 : U.vm.findClass _ = some a := ha
    have h2 : U.vm.findClass _ = some b := hb
    rw [h1] at h2
    exact Option.some.inj h2
theorem w_arr0 : Cond.arrayClass .int ∈ gtb := g_mem 206 (by decide +kernel) rfl
theorem V_newI {n : Int32} {N : Nat} (hd : Dc (M_c μ) pc (.newarray .int) 2 npc) (hn : ¬ n < 0) (hz : n.toNatClampNeg = N) (hb : N * componentBytes .int ≤ 536870912) (hr : (Nat.ble (c.1 + 1) (M_R μ).cells && Nat.ble (c.2 + N) (M_R μ).slots) = true) (k : V E μ K npc L (.ref h.1.length :: st) (hN h (.inl (0, N, []))) (c.1 + 1, c.2 + N)) : V E μ K pc L (.int n :: st) h c := by
  obtain ⟨hdg, rfl⟩ := hd
  simp only [Bool.and_eq_true, Nat.ble_eq] at hr
  intro g p e s m args below meth cd H locs ls hF hW hL
  refine va_newa (cl := CLS) (tys := aT g) (D := g.1) (A := aA g) (atype := .int) (ty := .int) (a0 := (N, .inl (fun _ => 0))) hF.1 hF.2.1 (F_w hF _ w_arr0) rfl (F_k hF) hW.1 (cw_D g h) hW.2.1 (fun q hq => Nat.le_trans (F_b hF) hq) (fun cA => rfl) hn hz hb hr.1 hr.2 hdg (fun q cA H1 q0 q1 q2 q3 => ?_)
  refine W_size (fun hz2 => ?_)
  have hq := new_addr (locs := locs) hW hz2 q1 q2
  subst hq
  have hid : cA = g.2.1 0 := arr_id (q0.2 6 (cA, .int) rfl).2 (q0.2 0 (g.2.1 0, .int) rfl).2
  subst hid
  rw [cw_new (c := .inl (0, N, [])) (by simp [ccell, hN]; try rfl)] at q1
  exact k g p e s m args below meth cd H1 locs ls hF ⟨q1, q3, by have := hW.2.2; simp only [hN, List.length_append, List.length_cons, List.length_nil]; omega⟩ hL
theorem w_arr1 : Cond.arrayClass .byte ∈ gtb := g_mem 130 (by decide +kernel) rfl
theorem V_newB {n : Int32} {N : Nat} (hd : Dc (M_c μ) pc (.newarray .byte) 2 npc) (hn : ¬ n < 0) (hz : n.toNatClampNeg = N) (hb : N * componentBytes .byte ≤ 536870912) (hr : (Nat.ble (c.1 + 1) (M_R μ).cells && Nat.ble (c.2 + N) (M_R μ).slots) = true) (k : V E μ K npc L (.ref h.1.length :: st) (hN h (.inl (1, N, []))) (c.1 + 1, c.2 + N)) : V E μ K pc L (.int n :: st) h c := by
  obtain ⟨hdg, rfl⟩ := hd
  simp only [Bool.and_eq_true, Nat.ble_eq] at hr
  intro g p e s m args below meth cd H locs ls hF hW hL
  refine va_newa (cl := CLS) (tys := aT g) (D := g.1) (A := aA g) (atype := .byte) (ty := .byte) (a0 := (N, .inl (fun _ => 0))) hF.1 hF.2.1 (F_w hF _ w_arr1) rfl (F_k hF) hW.1 (cw_D g h) hW.2.1 (fun q hq => Nat.le_trans (F_b hF) hq) (fun cA => rfl) hn hz hb hr.1 hr.2 hdg (fun q cA H1 q0 q1 q2 q3 => ?_)
  refine W_size (fun hz2 => ?_)
  have hq := new_addr (locs := locs) hW hz2 q1 q2
  subst hq
  have hid : cA = g.2.1 1 := arr_id (q0.2 6 (cA, .byte) rfl).2 (q0.2 1 (g.2.1 1, .byte) rfl).2
  subst hid
  rw [cw_new (c := .inl (1, N, [])) (by simp [ccell, hN]; try rfl)] at q1
  exact k g p e s m args below meth cd H1 locs ls hF ⟨q1, q3, by have := hW.2.2; simp only [hN, List.length_append, List.length_cons, List.length_nil]; omega⟩ hL
theorem w_arr2 : Cond.arrayClass .boolean ∈ gtb := g_mem 1205 (by decide +kernel) rfl
theorem V_newZ {n : Int32} {N : Nat} (hd : Dc (M_c μ) pc (.newarray .boolean) 2 npc) (hn : ¬ n < 0) (hz : n.toNatClampNeg = N) (hb : N * componentBytes .boolean ≤ 536870912) (hr : (Nat.ble (c.1 + 1) (M_R μ).cells && Nat.ble (c.2 + N) (M_R μ).slots) = true) (k : V E μ K npc L (.ref h.1.length :: st) (hN h (.inl (2, N, []))) (c.1 + 1, c.2 + N)) : V E μ K pc L (.int n :: st) h c := by
  obtain ⟨hdg, rfl⟩ := hd
  simp only [Bool.and_eq_true, Nat.ble_eq] at hr
  intro g p e s m args below meth cd H locs ls hF hW hL
  refine va_newa (cl := CLS) (tys := aT g) (D := g.1) (A := aA g) (atype := .boolean) (ty := .boolean) (a0 := (N, .inl (fun _ => 0))) hF.1 hF.2.1 (F_w hF _ w_arr2) rfl (F_k hF) hW.1 (cw_D g h) hW.2.1 (fun q hq => Nat.le_trans (F_b hF) hq) (fun cA => rfl) hn hz hb hr.1 hr.2 hdg (fun q cA H1 q0 q1 q2 q3 => ?_)
  refine W_size (fun hz2 => ?_)
  have hq := new_addr (locs := locs) hW hz2 q1 q2
  subst hq
  have hid : cA = g.2.1 2 := arr_id (q0.2 6 (cA, .boolean) rfl).2 (q0.2 2 (g.2.1 2, .boolean) rfl).2
  subst hid
  rw [cw_new (c := .inl (2, N, [])) (by simp [ccell, hN]; try rfl)] at q1
  exact k g p e s m args below meth cd H1 locs ls hF ⟨q1, q3, by have := hW.2.2; simp only [hN, List.length_append, List.length_cons, List.length_nil]; omega⟩ hL
theorem w_arr3 : Cond.arrayClass .long ∈ gtb := g_mem 421 (by decide +kernel) rfl
theorem V_newJ {n : Int32} {N : Nat} (hd : Dc (M_c μ) pc (.newarray .long) 2 npc) (hn : ¬ n < 0) (hz : n.toNatClampNeg = N) (hb : N * componentBytes .long ≤ 536870912) (hr : (Nat.ble (c.1 + 1) (M_R μ).cells && Nat.ble (c.2 + N) (M_R μ).slots) = true) (k : V E μ K npc L (.ref h.1.length :: st) (hN h (.inl (3, N, []))) (c.1 + 1, c.2 + N)) : V E μ K pc L (.int n :: st) h c := by
  obtain ⟨hdg, rfl⟩ := hd
  simp only [Bool.and_eq_true, Nat.ble_eq] at hr
  intro g p e s m args below meth cd H locs ls hF hW hL
  refine va_newa (cl := CLS) (tys := aT g) (D := g.1) (A := aA g) (atype := .long) (ty := .long) (a0 := (N, .inr (.inl (fun _ => 0)))) hF.1 hF.2.1 (F_w hF _ w_arr3) rfl (F_k hF) hW.1 (cw_D g h) hW.2.1 (fun q hq => Nat.le_trans (F_b hF) hq) (fun cA => rfl) hn hz hb hr.1 hr.2 hdg (fun q cA H1 q0 q1 q2 q3 => ?_)
  refine W_size (fun hz2 => ?_)
  have hq := new_addr (locs := locs) hW hz2 q1 q2
  subst hq
  have hid : cA = g.2.1 3 := arr_id (q0.2 6 (cA, .long) rfl).2 (q0.2 3 (g.2.1 3, .long) rfl).2
  subst hid
  rw [cw_new (c := .inl (3, N, [])) (by simp [ccell, hN]; try rfl)] at q1
  exact k g p e s m args below meth cd H1 locs ls hF ⟨q1, q3, by have := hW.2.2; simp only [hN, List.length_append, List.length_cons, List.length_nil]; omega⟩ hL
theorem V_newR4 {n : Int32} {N idx : Nat} (hd : Dc (M_c μ) pc (.anewarray idx) 3 npc) (hl : Cond.classLink (M_y μ).cls idx "LatePrices$Ledger" ∈ gtb) (hn : ¬ n < 0) (hz : n.toNatClampNeg = N) (hb : N * 4 ≤ 536870912) (hr : (Nat.ble (c.1 + 1) (M_R μ).cells && Nat.ble (c.2 + N) (M_R μ).slots) = true) (k : V E μ K npc L (.ref h.1.length :: st) (hN h (.inl (4, N, List.replicate N 2))) (c.1 + 1, c.2 + N)) : V E μ K pc L (.int n :: st) h c := by
  obtain ⟨hdg, rfl⟩ := hd
  simp only [Bool.and_eq_true, Nat.ble_eq] at hr
  intro g p e s m args below meth cd H locs ls hF hW hL
  obtain ⟨-, -, -, -, hl4, hl5, -⟩ := F_X hF
  refine va_newq (cl := CLS) (tys := aT g) (D := g.1) (A := aA g) (C := "LatePrices$Ledger") hF.1 hF.2.1 (F_o hF) (F_w hF _ hl) hl4 (F_k hF) hW.1 (cw_D g h) hW.2.1 (fun q hq => Nat.le_trans (F_b hF) hq) hn hz hb hr.1 hr.2 hdg (fun q cA H1 q0 q1 q2 q3 => ?_)
  refine W_size (fun hz2 => ?_)
  have hq := new_addr (locs := locs) hW hz2 q1 q2
  subst hq
  have hid : cA = g.2.1 4 := arr_id (q0.2 6 (cA, .object "LatePrices$Ledger") rfl).2 (q0.2 4 (g.2.1 4, .object "LatePrices$Ledger") rfl).2
  subst hid
  have hcr : crf g (List.replicate N 2) = fun _ => none := by
    funext i
    simp only [crf, List.getD_eq_getElem?_getD, List.getElem?_replicate]
    split <;> rfl
  rw [cw_new (c := .inl (4, N, List.replicate N 2)) (by simp [ccell, hcr])] at q1
  exact k g p e s m args below meth cd H1 locs ls hF ⟨q1, q3, by have := hW.2.2; simp only [hN, List.length_append, List.length_cons, List.length_nil]; omega⟩ hL
theorem V_newR5 {n : Int32} {N idx : Nat} (hd : Dc (M_c μ) pc (.anewarray idx) 3 npc) (hl : Cond.classLink (M_y μ).cls idx "LatePrices$Sheet" ∈ gtb) (hn : ¬ n < 0) (hz : n.toNatClampNeg = N) (hb : N * 4 ≤ 536870912) (hr : (Nat.ble (c.1 + 1) (M_R μ).cells && Nat.ble (c.2 + N) (M_R μ).slots) = true) (k : V E μ K npc L (.ref h.1.length :: st) (hN h (.inl (5, N, List.replicate N 2))) (c.1 + 1, c.2 + N)) : V E μ K pc L (.int n :: st) h c := by
  obtain ⟨hdg, rfl⟩ := hd
  simp only [Bool.and_eq_true, Nat.ble_eq] at hr
  intro g p e s m args below meth cd H locs ls hF hW hL
  obtain ⟨-, -, -, -, hl4, hl5, -⟩ := F_X hF
  refine va_newq (cl := CLS) (tys := aT g) (D := g.1) (A := aA g) (C := "LatePrices$Sheet") hF.1 hF.2.1 (F_o hF) (F_w hF _ hl) hl5 (F_k hF) hW.1 (cw_D g h) hW.2.1 (fun q hq => Nat.le_trans (F_b hF) hq) hn hz hb hr.1 hr.2 hdg (fun q cA H1 q0 q1 q2 q3 => ?_)
  refine W_size (fun hz2 => ?_)
  have hq := new_addr (locs := locs) hW hz2 q1 q2
  subst hq
  have hid : cA = g.2.1 5 := arr_id (q0.2 6 (cA, .object "LatePrices$Sheet") rfl).2 (q0.2 5 (g.2.1 5, .object "LatePrices$Sheet") rfl).2
  subst hid
  have hcr : crf g (List.replicate N 2) = fun _ => none := by
    funext i
    simp only [crf, List.getD_eq_getElem?_getD, List.getElem?_replicate]
    split <;> rfl
  rw [cw_new (c := .inl (5, N, List.replicate N 2)) (by simp [ccell, hcr])] at q1
  exact k g p e s m args below meth cd H1 locs ls hF ⟨q1, q3, by have := hW.2.2; simp only [hN, List.length_append, List.length_cons, List.length_nil]; omega⟩ hL
theorem V_callN0 {μ2 : aM} {a : Nat} (As : List Value) (hd : Dc (M_c μ) pc (.invokespecial 9) 3 npc) (hcl : (M_y μ).cls = "LatePrices") (hy2 : M_y μ2 = ⟨"LatePrices$Tape", "<init>", "()V"⟩) (ok : okM μ2) (hin : Cond.instanceMethod (M_y μ2) ∈ gtb) (hret : M_r μ2 = none) (hk : M_k μ2 = 0) (hr : rmok (M_R μ) μ2 c = true) (hn : As.length = M_n μ2) (hst : stW st = true) (k : Call E μ2 (.ref a :: As) h (fun r h2 => V E μ K npc L st h2 (c.1 + (M_R μ2).cells, c.2 + (M_R μ2).slots))) : V E μ K pc L (As.reverse ++ .ref a :: st) h c := by
  obtain ⟨hdg, rfl⟩ := hd
  have hr := rmok_spec hr
  intro g p e s m args below meth cd H locs ls hF hW hL
  refine W_size (fun hz => ?_)
  have hsz := aW_size hW hz (F_b hF)
  have hM := k g
  obtain ⟨-, -, -, -, -, -, hn0, hn1, -⟩ := F_X hF
  have hNw : va_Nw (.methodLinkNest (M_y μ).cls 9 (M_y μ2) "LatePrices") s := by rw [hcl, hy2]; exact hn0
  have hrun := va_runIN (S := ⟨hF.1, hF.2.1, hF.2.2.1, F_o hF, F_w hF⟩) (b := g.2.2.1 + a) (As := (As.map (cv g))) (rest := st.map (cv g)) (g := F0 m pc ls ((As.reverse ++ .ref a :: st).map (cv g))) (locs := locs) (below := below) (meth := meth) (e := e) (R := M_R μ) (cells := c.1) (slots := c.2) (H := H) hM
    (⟨va_cnB (M_n μ2) (F_w hF) (g_goodIn ok.2.1) (by rw [hret]) rfl rfl hNw (F_w hF _ ok.2.2.1) ok.2.2.2 hr.1, by rw [hy2], F_w hF _ hin⟩)
    ⟨aPre_blind, aPre_of hF hW hsz ((.ref a :: As).map (cv g))⟩ rfl (by rw [List.length_map]; exact hn) hL.1 (by simp [cv]) (stW_spec (aX_cat (F_X hF)) hst) hdg hr.2
  refine va_callv (hrun.mono (fun s0 oc t e1 hq => rQ_0 hk e1 hq)) hW.2.1 (fun q _ z => z) (fun q z => z) (fun u t H1 locs1 q1 q2 q3 q4 q5 q6 q7 => ?_)
  subst q1
  exact q3.1 g p e s m args below meth cd t.heap locs1 ls hF ⟨q4, q7, by have := q3.2; have := hW.2.2; show s.heap.size + (c.1 + (M_R μ2).cells) = _; omega⟩ hL
theorem V_callN1 {μ2 : aM} {a : Nat} (As : List Value) (hd : Dc (M_c μ) pc (.invokespecial 95) 3 npc) (hcl : (M_y μ).cls = "LatePrices") (hy2 : M_y μ2 = ⟨"LatePrices$Sheet", "<init>", "()V"⟩) (ok : okM μ2) (hin : Cond.instanceMethod (M_y μ2) ∈ gtb) (hret : M_r μ2 = none) (hk : M_k μ2 = 0) (hr : rmok (M_R μ) μ2 c = true) (hn : As.length = M_n μ2) (hst : stW st = true) (k : Call E μ2 (.ref a :: As) h (fun r h2 => V E μ K npc L st h2 (c.1 + (M_R μ2).cells, c.2 + (M_R μ2).slots))) : V E μ K pc L (As.reverse ++ .ref a :: st) h c := by
  obtain ⟨hdg, rfl⟩ := hd
  have hr := rmok_spec hr
  intro g p e s m args below meth cd H locs ls hF hW hL
  refine W_size (fun hz => ?_)
  have hsz := aW_size hW hz (F_b hF)
  have hM := k g
  obtain ⟨-, -, -, -, -, -, hn0, hn1, -⟩ := F_X hF
  have hNw : va_Nw (.methodLinkNest (M_y μ).cls 95 (M_y μ2) "LatePrices") s := by rw [hcl, hy2]; exact hn1
  have hrun := va_runIN (S := ⟨hF.1, hF.2.1, hF.2.2.1, F_o hF, F_w hF⟩) (b := g.2.2.1 + a) (As := (As.map (cv g))) (rest := st.map (cv g)) (g := F0 m pc ls ((As.reverse ++ .ref a :: st).map (cv g))) (locs := locs) (below := below) (meth := meth) (e := e) (R := M_R μ) (cells := c.1) (slots := c.2) (H := H) hM
    (⟨va_cnB (M_n μ2) (F_w hF) (g_goodIn ok.2.1) (by rw [hret]) rfl rfl hNw (F_w hF _ ok.2.2.1) ok.2.2.2 hr.1, by rw [hy2], F_w hF _ hin⟩)
    ⟨aPre_blind, aPre_of hF hW hsz ((.ref a :: As).map (cv g))⟩ rfl (by rw [List.length_map]; exact hn) hL.1 (by simp [cv]) (stW_spec (aX_cat (F_X hF)) hst) hdg hr.2
  refine va_callv (hrun.mono (fun s0 oc t e1 hq => rQ_0 hk e1 hq)) hW.2.1 (fun q _ z => z) (fun q z => z) (fun u t H1 locs1 q1 q2 q3 q4 q5 q6 q7 => ?_)
  subst q1
  exact q3.1 g p e s m args below meth cd t.heap locs1 ls hF ⟨q4, q7, by have := q3.2; have := hW.2.2; show s.heap.size + (c.1 + (M_R μ2).cells) = _; omega⟩ hL
theorem V_ldcS {j : UInt32} {idx : Nat} (hd : Dc (M_c μ) pc (.ldc idx) 2 npc) (hcl : (M_y μ).cls = "LatePrices$Reader") (hj : j.toNat < 9) (hi : sIdx.getD j.toNat 0 = idx) (k : V E μ K npc L (.float j :: st) h c) : V E μ K pc L st h c := by
  obtain ⟨hdg, rfl⟩ := hd
  intro g p e s m args below meth cd H locs ls hF hW hL
  obtain ⟨⟨adK, adV, h1, h2, h3⟩, -⟩ := F_X hF
  have h4 := h3 _ hj
  rw [hi] at h4
  refine va_ldcS hF.1 hF.2.1 (by rw [← hcl]; exact F_o hF) h4 hdg ?_
  have h5 := k g p e s m args below meth cd H locs ls hF hW hL
  rw [List.map_cons, show cv g (.float j) = .ref (adK j.toNat) from (h1 _ hj).1] at h5
  exact h5
theorem sp16 {j : UInt32} (hj : j.toNat < 9) : (j + 16).toNat = 16 + j.toNat := by
  rw [UInt32.toNat_add]
  show (j.toNat + 16) % 2 ^ 32 = _
  omega
theorem V_getSv {j : UInt32} {idx : Nat} (hd : Dc (M_c μ) pc (.getfield idx) 3 npc) (hf : Cond.fieldLink (M_y μ).cls idx "java/lang/String" "value" "[B" ∈ gtb) (hj : j.toNat < 9) (k : V E μ K npc L (.float (j + 16) :: st) h c) : V E μ K pc L (.float j :: st) h c := by
  obtain ⟨hdg, rfl⟩ := hd
  intro g p e s m args below meth cd H locs ls hF hW hL
  obtain ⟨⟨adK, adV, h1, h2, h3⟩, -⟩ := F_X hF
  have h5 := k g p e s m args below meth cd H locs ls hF hW hL
  rw [List.map_cons, show cv g (.float (j + 16)) = .ref (adV j.toNat) from by rw [← (h1 _ hj).2, ← sp16 hj]; rfl] at h5
  rw [List.map_cons, show cv g (.float j) = .ref (adK j.toNat) from (h1 _ hj).1]
  exact vk_getf hF.1 hF.2.1 (h2.1 _ hj).2.2.1 hW.2.1 (F_o hF) (F_w hF _ hf) (fun _ z => z) hdg h5
theorem V_getSc {j : UInt32} {idx : Nat} (hd : Dc (M_c μ) pc (.getfield idx) 3 npc) (hf : Cond.fieldLink (M_y μ).cls idx "java/lang/String" "coder" "B" ∈ gtb) (hj : j.toNat < 9) (k : V E μ K npc L (.int 0 :: st) h c) : V E μ K pc L (.float j :: st) h c := by
  obtain ⟨hdg, rfl⟩ := hd
  intro g p e s m args below meth cd H locs ls hF hW hL
  obtain ⟨⟨adK, adV, h1, h2, h3⟩, -⟩ := F_X hF
  have h5 := k g p e s m args below meth cd H locs ls hF hW hL
  rw [List.map_cons, show cv g (.float j) = .ref (adK j.toNat) from (h1 _ hj).1]
  exact vk_getf hF.1 hF.2.1 (h2.1 _ hj).2.1 hW.2.1 (F_o hF) (F_w hF _ hf) (fun _ z => z) hdg h5
theorem V_lenS {j : UInt32} {v : Int32} (hd : Dc (M_c μ) pc .arraylength 1 npc) (hj : j.toNat < 9) (hv : Int32.ofNat (sLen.getD j.toNat 0) = v) (k : V E μ K npc L (.int v :: st) h c) : V E μ K pc L (.float (j + 16) :: st) h c := by
  obtain ⟨hdg, rfl⟩ := hd
  intro g p e s m args below meth cd H locs ls hF hW hL
  obtain ⟨⟨adK, adV, h1, h2, h3⟩, -⟩ := F_X hF
  have h5 := k g p e s m args below meth cd H locs ls hF hW hL
  rw [List.map_cons, show cv g (.float (j + 16)) = .ref (adV j.toNat) from by rw [← (h1 _ hj).2, ← sp16 hj]; rfl]
  exact va_tlen hF.1 hF.2.1 (h2.1 _ hj).2.2.2 hW.2.1 hv hdg h5
theorem V_baldS {j : UInt32} {i v : Int32} (hd : Dc (M_c μ) pc .baload 1 npc) (hj : j.toNat < 9) (hi : vp_in i (sLen.getD j.toNat 0)) (hv : (sByt.getD j.toNat []).getD i.toNatClampNeg 0 = v) (k : V E μ K npc L (.int v :: st) h c) : V E μ K pc L (.int i :: .float (j + 16) :: st) h c := by
  obtain ⟨hdg, rfl⟩ := hd
  intro g p e s m args below meth cd H locs ls hF hW hL
  obtain ⟨⟨adK, adV, h1, h2, h3⟩, -⟩ := F_X hF
  have h5 := k g p e s m args below meth cd H locs ls hF hW hL
  rw [List.map_cons, List.map_cons, show cv g (.float (j + 16)) = .ref (adV j.toNat) from by rw [← (h1 _ hj).2, ← sp16 hj]; rfl]
  exact va_tb hF.1 hF.2.1 (h2.1 _ hj).2.2.2 hW.2.1 hi (by rw [hv]; rfl) hdg h5
theorem V_getC {idx : Nat} (hd : Dc (M_c μ) pc (.getstatic idx) 3 npc) (hf : Cond.fieldLink (M_y μ).cls idx "java/lang/String" "COMPACT_STRINGS" "Z" ∈ gtb) (k : V E μ K npc L (.int 1 :: st) h c) : V E μ K pc L st h c := by
  obtain ⟨hdg, rfl⟩ := hd
  intro g p e s m args below meth cd H locs ls hF hW hL
  obtain ⟨-, hz, -⟩ := F_X hF
  exact va_gets hF.1 hF.2.1 hz hW.2.1 (F_o hF) (F_w hF _ hf) (fun _ z => z) hdg (k g p e s m args below meth cd H locs ls hF hW hL)
theorem V_getF {idx : Nat} (hd : Dc (M_c μ) pc (.getstatic idx) 3 npc) (hf : Cond.fieldLink (M_y μ).cls idx "jdk/internal/util/Preconditions" "SIOOBE_FORMATTER" "Ljava/util/function/BiFunction;" ∈ gtb) (k : V E μ K npc L (.float 33 :: st) h c) : V E μ K pc L st h c := by
  obtain ⟨hdg, rfl⟩ := hd
  intro g p e s m args below meth cd H locs ls hF hW hL
  obtain ⟨-, -, hz, -⟩ := F_X hF
  exact va_gets hF.1 hF.2.1 hz hW.2.1 (F_o hF) (F_w hF _ hf) (fun _ z => z) hdg (k g p e s m args below meth cd H locs ls hF hW hL)
theorem V_sld {i : Int32} (hd : Dc (M_c μ) pc .iaload 1 npc) (hi : vp_in i E.2.1) (k : V E μ K npc L (.int (E.2.2 i.toNatClampNeg) :: st) h c) : V E μ K pc L (.int i :: .float 32 :: st) h c := by
  obtain ⟨hdg, rfl⟩ := hd
  intro g p e s m args below meth cd H locs ls hF hW hL
  obtain ⟨-, -, -, ⟨b, h6, h7, h8⟩, -⟩ := F_X hF
  rw [List.map_cons, List.map_cons, show cv g (.float 32) = .ref b from h6]
  exact va_sld (A := aA g) hF.1 hF.2.1 h8 (by have := F_b hF; omega) (by show ¬ g.2.2.1 ≤ b; omega) hW.2.1 hi hdg (k g p e s m args below meth cd H locs ls hF hW hL)
theorem V_slen (hd : Dc (M_c μ) pc .arraylength 1 npc) (k : V E μ K npc L (.int (Int32.ofNat E.2.1) :: st) h c) : V E μ K pc L (.float 32 :: st) h c := by
  obtain ⟨hdg, rfl⟩ := hd
  intro g p e s m args below meth cd H locs ls hF hW hL
  obtain ⟨-, -, -, ⟨b, h6, h7, h8⟩, -⟩ := F_X hF
  rw [List.map_cons, show cv g (.float 32) = .ref b from h6]
  exact va_slen (A := aA g) hF.1 hF.2.1 h8 (by have := F_b hF; omega) (by show ¬ g.2.2.1 ≤ b; omega) hW.2.1 hdg (k g p e s m args below meth cd H locs ls hF hW hL)
theorem V_callVs {idx : Nat} {μ2 : aM} {j : UInt32} (As : List Value) (hd : Dc (M_c μ) pc (.invokevirtual idx) 3 npc) (ok : okV (M_y μ).cls idx μ2) (hcl : (M_y μ2).cls = "java/lang/String") (hj : j.toNat < 9) (hk : M_k μ2 = 1) (hr : rmok (M_R μ) μ2 c = true) (hn : As.length = M_n μ2) (hst : stW st = true) (k : Call E μ2 (.float j :: As) h (fun r h2 => V E μ K npc L (r :: st) h2 (c.1 + (M_R μ2).cells, c.2 + (M_R μ2).slots))) : V E μ K pc L (As.reverse ++ .float j :: st) h c := by
  obtain ⟨hdg, rfl⟩ := hd
  have hr := rmok_spec hr
  intro g p e s m args below meth cd H locs ls hF hW hL
  refine W_size (fun hz => ?_)
  have hsz := aW_size hW hz (F_b hF)
  have hM := k g
  obtain ⟨⟨adK, adV, h1, h2, h3⟩, -⟩ := F_X hF
  have hcj : cv g (.float j) = .ref (adK j.toNat) := (h1 _ hj).1
  have hrun := va_runV (S := ⟨hF.1, hF.2.1, hF.2.2.1, F_o hF, F_w hF⟩) (b := adK j.toNat) (C := (M_y μ2).cls) (As := (As.map (cv g))) (rest := st.map (cv g)) (g := F0 m pc ls ((As.reverse ++ .float j :: st).map (cv g))) (locs := locs) (below := below) (meth := meth) (e := e) (R := M_R μ) (cells := c.1) (slots := c.2) (H := H) hM
    (⟨callB_of (M_n μ2) (F_w hF) (g_goodIn ok.1.2.1) rfl rfl rfl (F_w hF _ ok.1.2.2.1) (F_w hF _ ok.2.1) ok.1.2.2.2 hr.1, F_w hF _ ok.2.2.1, F_w hF _ ok.2.2.2⟩)
    ⟨aPre_blind, by rw [hcl]; exact vk_recv h2 hj hW.2.1, by
      have := aPre_of hF hW hsz ((.float j :: As).map (cv g))
      rw [List.map_cons, hcj] at this ⊢
      exact this⟩ rfl (by rw [List.length_map]; exact hn) hL.1 (by simp [hcj]) (stW_spec (aX_cat (F_X hF)) hst) hdg hr.2
  refine va_calli (hrun.mono (fun s0 oc t e1 hq => rQ_1 hk e1 hq)) hW.2.1 (fun q _ z => z) (fun q z => z) (fun r u t H1 locs1 q1 q2 q3 q4 q5 q6 q7 => ?_)
  subst q1
  exact q3.1 g p e s m args below meth cd t.heap locs1 ls hF ⟨q4, q7, by have := q3.2; have := hW.2.2; show s.heap.size + (c.1 + (M_R μ2).cells) = _; omega⟩ hL
theorem V_popS {j : UInt32} (hd : Dc (M_c μ) pc .pop 1 npc) (k : V E μ K npc L st h c) : V E μ K pc L (.int j.toInt32 :: st) h c := V_popI hd k
theorem V_tabOut {dflt lo hi : Int} {offs : Array Int} {len : Nat} {x : Int32} (hd : decode (M_c μ) pc = .ok (.tableswitch dflt lo hi offs, len)) (ht : (pc : Int) + dflt = (tgt : Int)) (hx : x.toInt < lo ∨ hi < x.toInt) (k : V E μ K tgt L st h c) : V E μ K pc L (.int x :: st) h c := by
  intro g p e s m args below meth cd H locs ls hF hW hL
  exact lv_tableOut hF.1 hF.2.1 hd hx ht (k g p e s m args below meth cd H locs ls hF hW hL)
theorem V_tabIn {dflt lo hi off : Int} {offs : Array Int} {len : Nat} {x : Int32} (hd : decode (M_c μ) pc = .ok (.tableswitch dflt lo hi offs, len)) (h1 : ¬ x.toInt < lo) (h2 : ¬ hi < x.toInt) (ho : offs[(x.toInt - lo).toNat]? = some off) (ht : (pc : Int) + off = (tgt : Int)) (k : V E μ K tgt L st h c) : V E μ K pc L (.int x :: st) h c := by
  intro g p e s m args below meth cd H locs ls hF hW hL
  exact lv_tableIn hF.1 hF.2.1 hd h1 h2 ho ht (k g p e s m args below meth cd H locs ls hF hW hL)
theorem V_look {dflt off : Int} {ps : Array (Int × Int)} {len : Nat} {x : Int32} (hd : decode (M_c μ) pc = .ok (.lookupswitch dflt ps, len)) (hp : (ps.toList.zip (ps.toList.drop 1)).all (fun (a, next) => a.1 < next.1) = true) (ho : Op.lookupswitch.offset ps.toList dflt x.toInt = off) (ht : (pc : Int) + off = (tgt : Int)) (k : V E μ K tgt L st h c) : V E μ K pc L (.int x :: st) h c := by
  intro g p e s m args below meth cd H locs ls hF hW hL
  exact lv_lookup hF.1 hF.2.1 hd hp ho ht (k g p e s m args below meth cd H locs ls hF hW hL)
end VR
end
section
abbrev hI_ : Type := Nat → Nat → Int32
abbrev hJ_ : Type := Nat → Nat → Int64
def upI (I : hI_) (a i : Nat) (v : Int32) : hI_ := fun b => if b = a then upd (I a) i v else I b
def upJ (J : hJ_) (a i : Nat) (v : Int64) : hJ_ := fun b => if b = a then vp_updL (J a) i v else J b
def cpI (I : hI_) (a b sp dp n : Nat) : hI_ := fun q => if q = b then va_cpy (I a) (I b) sp dp n else I q
def cpJ (J : hJ_) (a b sp dp n : Nat) : hJ_ := fun q => if q = b then va_cpy (J a) (J b) sp dp n else J q
def flI (I : hI_) (a n : Nat) (v : Int32) : hI_ := fun q => if q = a then (fun i => if i < n then v else I a i) else I q
def flJ (J : hJ_) (a n : Nat) (v : Int64) : hJ_ := fun q => if q = a then (fun i => if i < n then v else J a i) else J q
def b2i (p : Prop) [Decidable p] : Int32 := if p then 1 else 0
def kI (S : List aC) (P : Int32 → hI_ → hJ_ → Prop) : Value → aH → Prop := fun r h => ∃ x I J, r = .int x ∧ h = (S, I, J) ∧ P x I J
def kJ (S : List aC) (P : Int64 → hI_ → hJ_ → Prop) : Value → aH → Prop := fun r h => ∃ x I J, r = .long x ∧ h = (S, I, J) ∧ P x I J
def kV (S : List aC) (P : hI_ → hJ_ → Prop) : Value → aH → Prop := fun _ h => ∃ I J, h = (S, I, J) ∧ P I J
def CallI (E : aE) (μ : aM) (avs : List Value) (S : List aC) (I : hI_) (J : hJ_) (P : Int32 → hI_ → hJ_ → Prop) : Prop := Call E μ avs (S, I, J) (kI S P)
def CallJ (E : aE) (μ : aM) (avs : List Value) (S : List aC) (I : hI_) (J : hJ_) (P : Int64 → hI_ → hJ_ → Prop) : Prop := Call E μ avs (S, I, J) (kJ S P)
def CallV (E : aE) (μ : aM) (avs : List Value) (S : List aC) (I : hI_) (J : hJ_) (P : hI_ → hJ_ → Prop) : Prop := Call E μ avs (S, I, J) (kV S P)
theorem CallI_mono {E : aE} {μ : aM} {avs : List Value} {S : List aC} {I : hI_} {J : hJ_} {P Q : Int32 → hI_ → hJ_ → Prop} (c : CallI E μ avs S I J P) (h : ∀ x I J, P x I J → Q x I J) : CallI E μ avs S I J Q := Call_mono c (fun r hh ⟨x, I, J, h1, h2, h3⟩ => ⟨x, I, J, h1, h2, h x I J h3⟩)
theorem CallJ_mono {E : aE} {μ : aM} {avs : List Value} {S : List aC} {I : hI_} {J : hJ_} {P Q : Int64 → hI_ → hJ_ → Prop} (c : CallJ E μ avs S I J P) (h : ∀ x I J, P x I J → Q x I J) : CallJ E μ avs S I J Q := Call_mono c (fun r hh ⟨x, I, J, h1, h2, h3⟩ => ⟨x, I, J, h1, h2, h x I J h3⟩)
theorem CallV_mono {E : aE} {μ : aM} {avs : List Value} {S : List aC} {I : hI_} {J : hJ_} {P Q : hI_ → hJ_ → Prop} (c : CallV E μ avs S I J P) (h : ∀ I J, P I J → Q I J) : CallV E μ avs S I J Q := Call_mono c (fun r hh ⟨I, J, h2, h3⟩ => ⟨I, J, h2, h I J h3⟩)
theorem b2i_0 {p : Prop} [Decidable p] : b2i p = 0 ↔ ¬ p := by unfold b2i; split <;> simp_all
theorem b2i_1 {p : Prop} [Decidable p] : b2i p = 1 ↔ p := by unfold b2i; split <;> simp_all
theorem b2i_z {p : Prop} [Decidable p] : b2i p = 0 ∨ b2i p = 1 := by unfold b2i; split <;> simp
theorem b2i_nar {p : Prop} [Decidable p] : narrow .boolean (.int (b2i p)) = .int (b2i p) := by unfold b2i; split <;> rfl
theorem z_nar {v : Int32} (h : v = 0 ∨ v = 1) : narrow .boolean (.int v) = .int v := by rcases h with rfl | rfl <;> rfl
theorem lgc_lt {x y : Int64} : lg_cmp x y < 0 ↔ x < y := by
  unfold lg_cmp; split
  · rename_i h; constructor
    · intro q; exact absurd q (by decide)
    · intro q; exact absurd q (fun z => by have := Int64.lt_iff_toInt_lt.mp h; have := Int64.lt_iff_toInt_lt.mp z; omega)
  · split
    · rename_i h1 h; subst h; constructor
      · intro q; exact absurd q (by decide)
      · intro q; have := Int64.lt_iff_toInt_lt.mp q; omega
    · rename_i h1 h2; constructor
      · intro _
        have h3 : ¬ y.toInt < x.toInt := fun z => h1 (Int64.lt_iff_toInt_lt.mpr z)
        have h4 : ¬ x.toInt = y.toInt := fun z => h2 (Int64.toInt_inj.mp z)
        exact Int64.lt_iff_toInt_lt.mpr (by omega)
      · intro _; decide
theorem lgc_eq {x y : Int64} : lg_cmp x y = 0 ↔ x = y := by
  unfold lg_cmp; split
  · rename_i h; constructor
    · intro q; exact absurd q (by decide)
    · intro q; subst q; have := Int64.lt_iff_toInt_lt.mp h; omega
  · split
    · rename_i h; exact ⟨fun _ => h, fun _ => rfl⟩
    · rename_i h; exact ⟨fun q => absurd q (by decide), fun q => absurd q h⟩
theorem lgc_gt {x y : Int64} : 0 < lg_cmp x y ↔ y < x := by
  unfold lg_cmp; split
  · rename_i h; exact ⟨fun _ => h, fun _ => by decide⟩
  · rename_i h; split
    · exact ⟨fun q => absurd q (by decide), fun q => absurd q h⟩
    · exact ⟨fun q => absurd q (by decide), fun q => absurd q h⟩
theorem lgc_ge {x y : Int64} : 0 ≤ lg_cmp x y ↔ y ≤ x := by
  rw [← Int32.not_lt, lgc_lt, Int64.not_lt]
theorem lgc_le {x y : Int64} : lg_cmp x y ≤ 0 ↔ x ≤ y := by
  rw [← Int32.not_lt, lgc_gt, Int64.not_lt]
section VR
variable {E : aE} {μ : aM} {K : Value → aH → Prop} {pc npc pc2 tgt : Nat} {L L2 : List Value} {st : List Value} {h : aH} {c : Nat × Nat} {S : List aC} {I : hI_} {J : hJ_}
theorem V_wslots {n : Nat} (hn : Nat.ble c.2 n = true) (k : V E μ K pc L st h (c.1, n)) : V E μ K pc L st h c := by
  intro g p e s m args below meth cd H locs ls hF hW hL
  exact W.widen (Nat.le_refl _) (Nat.le_of_ble_eq_true hn) (k g p e s m args below meth cd H locs ls hF hW hL)
theorem U_istore {i : Nat} {x : Int32} (hd : Dc (M_c μ) pc (.istore i) 2 npc) (hn : i < M_L μ) (hL : aset1 L i (.int x) = L2) (k : V E μ K npc L2 st h c) : V E μ K pc L (.int x :: st) h c := V_istore hd hn (by rw [hL]; exact k)
theorem U_istore_n {i : Fin 4} {x : Int32} (hd : Dc (M_c μ) pc (.istore_n i) 1 npc) (hn : i.1 < M_L μ) (hL : aset1 L i.1 (.int x) = L2) (k : V E μ K npc L2 st h c) : V E μ K pc L (.int x :: st) h c := V_istore_n hd hn (by rw [hL]; exact k)
theorem U_astore {i : Nat} {x : Nat} (hd : Dc (M_c μ) pc (.astore i) 2 npc) (hn : i < M_L μ) (hL : aset1 L i (.ref x) = L2) (k : V E μ K npc L2 st h c) : V E μ K pc L (.ref x :: st) h c := V_astore hd hn (by rw [hL]; exact k)
theorem U_astore_n {i : Fin 4} {x : Nat} (hd : Dc (M_c μ) pc (.astore_n i) 1 npc) (hn : i.1 < M_L μ) (hL : aset1 L i.1 (.ref x) = L2) (k : V E μ K npc L2 st h c) : V E μ K pc L (.ref x :: st) h c := V_astore_n hd hn (by rw [hL]; exact k)
theorem U_lstore {i : Nat} {x : Int64} (hd : Dc (M_c μ) pc (.lstore i) 2 npc) (hn : i + 1 < M_L μ) (hL : aset2 L i (.long x) = L2) (k : V E μ K npc L2 st h c) : V E μ K pc L (.long x :: st) h c := V_lstore hd hn (by rw [hL]; exact k)
theorem U_lstore_n {i : Fin 4} {x : Int64} (hd : Dc (M_c μ) pc (.lstore_n i) 1 npc) (hn : i.1 + 1 < M_L μ) (hL : aset2 L i.1 (.long x) = L2) (k : V E μ K npc L2 st h c) : V E μ K pc L (.long x :: st) h c := V_lstore_n hd hn (by rw [hL]; exact k)
theorem U_iinc {i : Nat} {z : Int} {x v : Int32} (hd : Dc (M_c μ) pc (.iinc i z) 3 npc) (hn : i < M_L μ) (hl : L[i]? = some (.int x)) (hv : x + Int32.ofInt z = v) (hL : aset1 L i (.int v) = L2) (k : V E μ K npc L2 st h c) : V E μ K pc L st h c := V_iinc hd hn hl hv (by rw [hL]; exact k)
theorem U_getI {a idx ci j : Nat} {fs : List Nat} (hd : Dc (M_c μ) pc (.getfield idx) 3 npc) (hf : FL (M_y μ).cls idx ci j) (hs : S[a]? = some (.inr (ci, fs))) (hc : fs[j]? = some (0)) (k : V E μ K npc L (.int (I a j) :: st) (S, I, J) c) : V E μ K pc L (.ref a :: st) (S, I, J) c := V_getI hd hf hs hc k
theorem U_getJ {a idx ci j : Nat} {fs : List Nat} (hd : Dc (M_c μ) pc (.getfield idx) 3 npc) (hf : FL (M_y μ).cls idx ci j) (hs : S[a]? = some (.inr (ci, fs))) (hc : fs[j]? = some (1)) (k : V E μ K npc L (.long (J a j) :: st) (S, I, J) c) : V E μ K pc L (.ref a :: st) (S, I, J) c := V_getJ hd hf hs hc k
theorem U_getR {a idx ci j b : Nat} {fs : List Nat} (hd : Dc (M_c μ) pc (.getfield idx) 3 npc) (hf : FL (M_y μ).cls idx ci j) (hs : S[a]? = some (.inr (ci, fs))) (hc : fs[j]? = some (b + 3)) (k : V E μ K npc L (.ref b :: st) (S, I, J) c) : V E μ K pc L (.ref a :: st) (S, I, J) c := V_getR hd hf hs hc k
theorem U_putI {a idx ci j : Nat} {fs : List Nat} {v : Int32} (hd : Dc (M_c μ) pc (.putfield idx) 3 npc) (hf : FP (M_y μ).cls idx ci j .int) (hs : S[a]? = some (.inr (ci, fs))) (hc : fs[j]? = some 0) (k : V E μ K npc L st (S, upI I a j v, J) c) : V E μ K pc L (.int v :: .ref a :: st) (S, I, J) c := V_putI hd hf hs hc k
theorem U_putZ {a idx ci j : Nat} {fs : List Nat} {v : Int32} (hd : Dc (M_c μ) pc (.putfield idx) 3 npc) (hf : FP (M_y μ).cls idx ci j .boolean) (hv : v = 0 ∨ v = 1) (hs : S[a]? = some (.inr (ci, fs))) (hc : fs[j]? = some 0) (k : V E μ K npc L st (S, upI I a j v, J) c) : V E μ K pc L (.int v :: .ref a :: st) (S, I, J) c := V_putZ hd hf hv hs hc k
theorem U_putJ {a idx ci j : Nat} {fs : List Nat} {v : Int64} (hd : Dc (M_c μ) pc (.putfield idx) 3 npc) (hf : FP (M_y μ).cls idx ci j .long) (hs : S[a]? = some (.inr (ci, fs))) (hc : fs[j]? = some 1) (k : V E μ K npc L st (S, I, upJ J a j v) c) : V E μ K pc L (.long v :: .ref a :: st) (S, I, J) c := V_putJ hd hf hs hc k
theorem U_iald {a n : Nat} {rs : List Nat} {i : Int32} (hd : Dc (M_c μ) pc .iaload 1 npc) (hs : S[a]? = some (.inl (0, n, rs))) (hi : vp_in i n) (k : V E μ K npc L (.int (I a i.toNatClampNeg) :: st) (S, I, J) c) : V E μ K pc L (.int i :: .ref a :: st) (S, I, J) c := V_iald hd hs hi k
theorem U_bald {a n : Nat} {rs : List Nat} {i : Int32} (hd : Dc (M_c μ) pc .baload 1 npc) (hs : S[a]? = some (.inl (1, n, rs))) (hi : vp_in i n) (k : V E μ K npc L (.int (I a i.toNatClampNeg) :: st) (S, I, J) c) : V E μ K pc L (.int i :: .ref a :: st) (S, I, J) c := V_bald hd hs hi k
theorem U_zald {a n : Nat} {rs : List Nat} {i : Int32} (hd : Dc (M_c μ) pc .baload 1 npc) (hs : S[a]? = some (.inl (2, n, rs))) (hi : vp_in i n) (k : V E μ K npc L (.int (I a i.toNatClampNeg) :: st) (S, I, J) c) : V E μ K pc L (.int i :: .ref a :: st) (S, I, J) c := V_zald hd hs hi k
theorem U_lald {a n : Nat} {rs : List Nat} {i : Int32} (hd : Dc (M_c μ) pc .laload 1 npc) (hs : S[a]? = some (.inl (3, n, rs))) (hi : vp_in i n) (k : V E μ K npc L (.long (J a i.toNatClampNeg) :: st) (S, I, J) c) : V E μ K pc L (.int i :: .ref a :: st) (S, I, J) c := V_lald hd hs hi k
theorem U_aald0 {a n b : Nat} {rs : List Nat} {i : Int32} (hd : Dc (M_c μ) pc .aaload 1 npc) (hs : S[a]? = some (.inl (4, n, rs))) (hi : vp_in i n) (hc : rs.getD i.toNatClampNeg 2 = b + 3) (k : V E μ K npc L (.ref b :: st) (S, I, J) c) : V E μ K pc L (.int i :: .ref a :: st) (S, I, J) c := V_aald0 hd hs hi hc k
theorem U_aald1 {a n b : Nat} {rs : List Nat} {i : Int32} (hd : Dc (M_c μ) pc .aaload 1 npc) (hs : S[a]? = some (.inl (5, n, rs))) (hi : vp_in i n) (hc : rs.getD i.toNatClampNeg 2 = b + 3) (k : V E μ K npc L (.ref b :: st) (S, I, J) c) : V E μ K pc L (.int i :: .ref a :: st) (S, I, J) c := V_aald1 hd hs hi hc k
theorem U_iast {a n : Nat} {rs : List Nat} {i v : Int32} (hd : Dc (M_c μ) pc .iastore 1 npc) (hs : S[a]? = some (.inl (0, n, rs))) (hi : vp_in i n) (k : V E μ K npc L st (S, upI I a i.toNatClampNeg v, J) c) : V E μ K pc L (.int v :: .int i :: .ref a :: st) (S, I, J) c := V_iast hd hs hi k
theorem U_bast {a n : Nat} {rs : List Nat} {i v : Int32} (hd : Dc (M_c μ) pc .bastore 1 npc) (hs : S[a]? = some (.inl (1, n, rs))) (hi : vp_in i n) (k : V E μ K npc L st (S, upI I a i.toNatClampNeg v.toInt8.toInt32, J) c) : V E μ K pc L (.int v :: .int i :: .ref a :: st) (S, I, J) c := V_bast hd hs hi k
theorem U_zast {a n : Nat} {rs : List Nat} {i v : Int32} (hd : Dc (M_c μ) pc .bastore 1 npc) (hv : v = 0 ∨ v = 1) (hs : S[a]? = some (.inl (2, n, rs))) (hi : vp_in i n) (k : V E μ K npc L st (S, upI I a i.toNatClampNeg v, J) c) : V E μ K pc L (.int v :: .int i :: .ref a :: st) (S, I, J) c := V_zast hd hs hi (by rw [show vp_nar .boolean v = v by rcases hv with rfl | rfl <;> rfl]; exact k)
theorem U_last {a n : Nat} {rs : List Nat} {i : Int32} {v : Int64} (hd : Dc (M_c μ) pc .lastore 1 npc) (hs : S[a]? = some (.inl (3, n, rs))) (hi : vp_in i n) (k : V E μ K npc L st (S, I, upJ J a i.toNatClampNeg v) c) : V E μ K pc L (.long v :: .int i :: .ref a :: st) (S, I, J) c := V_last hd hs hi k
theorem U_alen {a t n : Nat} {rs : List Nat} {v : Int32} (hd : Dc (M_c μ) pc .arraylength 1 npc) (hs : S[a]? = some (.inl (t, n, rs))) (ht : t < 6) (hv : Int32.ofNat n = v) (k : V E μ K npc L (.int v :: st) (S, I, J) c) : V E μ K pc L (.ref a :: st) (S, I, J) c := V_alen hd hs ht hv k
theorem U_copyI {a b idx n0 n1 : Nat} {r0 r1 : List Nat} {sp dp n : Int32} (hd : Dc (M_c μ) pc (.invokestatic idx) 3 npc) (hl : Cond.methodLink (M_y μ).cls idx arraycopyName ∈ gtb) (hs0 : S[a]? = some (.inl (0, n0, r0))) (hs1 : S[b]? = some (.inl (0, n1, r1))) (h1 : ¬ sp < 0) (h2 : ¬ dp < 0) (h3 : ¬ n < 0) (h4 : sp.toNatClampNeg + n.toNatClampNeg ≤ n0) (h5 : dp.toNatClampNeg + n.toNatClampNeg ≤ n1) (hr : cpok (M_R μ) st = true) (k : V E μ K npc L st (S, cpI I a b sp.toNatClampNeg dp.toNatClampNeg n.toNatClampNeg, J) c) : V E μ K pc L (.int n :: .int dp :: .ref b :: .int sp :: .ref a :: st) (S, I, J) c := V_copyI hd hl hs0 hs1 h1 h2 h3 h4 h5 hr k
theorem U_copyJ {a b idx n0 n1 : Nat} {r0 r1 : List Nat} {sp dp n : Int32} (hd : Dc (M_c μ) pc (.invokestatic idx) 3 npc) (hl : Cond.methodLink (M_y μ).cls idx arraycopyName ∈ gtb) (hs0 : S[a]? = some (.inl (3, n0, r0))) (hs1 : S[b]? = some (.inl (3, n1, r1))) (h1 : ¬ sp < 0) (h2 : ¬ dp < 0) (h3 : ¬ n < 0) (h4 : sp.toNatClampNeg + n.toNatClampNeg ≤ n0) (h5 : dp.toNatClampNeg + n.toNatClampNeg ≤ n1) (hr : cpok (M_R μ) st = true) (k : V E μ K npc L st (S, I, cpJ J a b sp.toNatClampNeg dp.toNatClampNeg n.toNatClampNeg) c) : V E μ K pc L (.int n :: .int dp :: .ref b :: .int sp :: .ref a :: st) (S, I, J) c := V_copyJ hd hl hs0 hs1 h1 h2 h3 h4 h5 hr k
theorem V_c0 {a b : Nat} (ha : a = 0) (hb : b = 0) (k : V E μ K pc L st h c) : V E μ K pc L st h (c.1 + a, c.2 + b) := by subst ha; subst hb; exact k
theorem U_callV0 {idx : Nat} {μ2 : aM} {a : Nat} (As : List Value) (hd : Dc (M_c μ) pc (.invokevirtual idx) 3 npc) (ok : okV (M_y μ).cls idx μ2) {ci : Nat} {fs : List Nat} (hs : S[a]? = some (.inr (ci, fs))) (hci : (CLS[ci]?).map (fun q => q.1) = some (M_y μ2).cls) (hz : M_k μ2 = 0 ∧ (M_R μ2).cells = 0 ∧ (M_R μ2).slots = 0) (hr : rmok (M_R μ) μ2 c = true) (hn : As.length = M_n μ2) (hst : stW st = true) (k : CallV E μ2 (.ref a :: As) S I J (fun I2 J2 => V E μ K npc L (st) (S, I2, J2) c)) : V E μ K pc L (As.reverse ++ .ref a :: st) (S, I, J) c := V_callV0 As hd ok hs hci hz.1 hr hn hst (Call_mono k (fun r h2 ⟨I2, J2, e2, q⟩ => by subst e2; exact V_c0 hz.2.1 hz.2.2 q))
theorem U_callS0 {idx : Nat} {μ2 : aM} (As : List Value) (hd : Dc (M_c μ) pc (.invokestatic idx) 3 npc) (ok : okS (M_y μ).cls idx μ2) (hz : M_k μ2 = 0 ∧ (M_R μ2).cells = 0 ∧ (M_R μ2).slots = 0) (hr : rmok (M_R μ) μ2 c = true) (hn : As.length = M_n μ2) (hst : stW st = true) (k : CallV E μ2 As S I J (fun I2 J2 => V E μ K npc L (st) (S, I2, J2) c)) : V E μ K pc L (As.reverse ++ st) (S, I, J) c := V_callS0 As hd ok hz.1 hr hn hst (Call_mono k (fun r h2 ⟨I2, J2, e2, q⟩ => by subst e2; exact V_c0 hz.2.1 hz.2.2 q))
theorem U_callV1 {idx : Nat} {μ2 : aM} {a : Nat} (As : List Value) (hd : Dc (M_c μ) pc (.invokevirtual idx) 3 npc) (ok : okV (M_y μ).cls idx μ2) {ci : Nat} {fs : List Nat} (hs : S[a]? = some (.inr (ci, fs))) (hci : (CLS[ci]?).map (fun q => q.1) = some (M_y μ2).cls) (hz : M_k μ2 = 1 ∧ (M_R μ2).cells = 0 ∧ (M_R μ2).slots = 0) (hr : rmok (M_R μ) μ2 c = true) (hn : As.length = M_n μ2) (hst : stW st = true) (k : CallI E μ2 (.ref a :: As) S I J (fun x I2 J2 => V E μ K npc L (.int x :: st) (S, I2, J2) c)) : V E μ K pc L (As.reverse ++ .ref a :: st) (S, I, J) c := V_callV1 As hd ok hs hci hz.1 hr hn hst (Call_mono k (fun r h2 ⟨x, I2, J2, e1, e2, q⟩ => by subst e1; subst e2; exact V_c0 hz.2.1 hz.2.2 q))
theorem U_callS1 {idx : Nat} {μ2 : aM} (As : List Value) (hd : Dc (M_c μ) pc (.invokestatic idx) 3 npc) (ok : okS (M_y μ).cls idx μ2) (hz : M_k μ2 = 1 ∧ (M_R μ2).cells = 0 ∧ (M_R μ2).slots = 0) (hr : rmok (M_R μ) μ2 c = true) (hn : As.length = M_n μ2) (hst : stW st = true) (k : CallI E μ2 As S I J (fun x I2 J2 => V E μ K npc L (.int x :: st) (S, I2, J2) c)) : V E μ K pc L (As.reverse ++ st) (S, I, J) c := V_callS1 As hd ok hz.1 hr hn hst (Call_mono k (fun r h2 ⟨x, I2, J2, e1, e2, q⟩ => by subst e1; subst e2; exact V_c0 hz.2.1 hz.2.2 q))
theorem U_callVs {idx : Nat} {μ2 : aM} {j : UInt32} (As : List Value) (hd : Dc (M_c μ) pc (.invokevirtual idx) 3 npc) (ok : okV (M_y μ).cls idx μ2) (hcl : (M_y μ2).cls = "java/lang/String") (hj : j.toNat < 9) (hz : M_k μ2 = 1 ∧ (M_R μ2).cells = 0 ∧ (M_R μ2).slots = 0) (hr : rmok (M_R μ) μ2 c = true) (hn : As.length = M_n μ2) (hst : stW st = true) (k : CallI E μ2 (.float j :: As) S I J (fun x I2 J2 => V E μ K npc L (.int x :: st) (S, I2, J2) c)) : V E μ K pc L (As.reverse ++ .float j :: st) (S, I, J) c := V_callVs As hd ok hcl hj hz.1 hr hn hst (Call_mono k (fun r h2 ⟨x, I2, J2, e1, e2, q⟩ => by subst e1; subst e2; exact V_c0 hz.2.1 hz.2.2 q))
theorem U_callV2 {idx : Nat} {μ2 : aM} {a : Nat} (As : List Value) (hd : Dc (M_c μ) pc (.invokevirtual idx) 3 npc) (ok : okV (M_y μ).cls idx μ2) {ci : Nat} {fs : List Nat} (hs : S[a]? = some (.inr (ci, fs))) (hci : (CLS[ci]?).map (fun q => q.1) = some (M_y μ2).cls) (hz : M_k μ2 = 2 ∧ (M_R μ2).cells = 0 ∧ (M_R μ2).slots = 0) (hr : rmok (M_R μ) μ2 c = true) (hn : As.length = M_n μ2) (hst : stW st = true) (k : CallJ E μ2 (.ref a :: As) S I J (fun x I2 J2 => V E μ K npc L (.long x :: st) (S, I2, J2) c)) : V E μ K pc L (As.reverse ++ .ref a :: st) (S, I, J) c := V_callV2 As hd ok hs hci hz.1 hr hn hst (Call_mono k (fun r h2 ⟨x, I2, J2, e1, e2, q⟩ => by subst e1; subst e2; exact V_c0 hz.2.1 hz.2.2 q))
theorem U_callS2 {idx : Nat} {μ2 : aM} (As : List Value) (hd : Dc (M_c μ) pc (.invokestatic idx) 3 npc) (ok : okS (M_y μ).cls idx μ2) (hz : M_k μ2 = 2 ∧ (M_R μ2).cells = 0 ∧ (M_R μ2).slots = 0) (hr : rmok (M_R μ) μ2 c = true) (hn : As.length = M_n μ2) (hst : stW st = true) (k : CallJ E μ2 As S I J (fun x I2 J2 => V E μ K npc L (.long x :: st) (S, I2, J2) c)) : V E μ K pc L (As.reverse ++ st) (S, I, J) c := V_callS2 As hd ok hz.1 hr hn hst (Call_mono k (fun r h2 ⟨x, I2, J2, e1, e2, q⟩ => by subst e1; subst e2; exact V_c0 hz.2.1 hz.2.2 q))
theorem U_lcmp_eq {off : Int} {x y : Int64} (hd0 : Dc (M_c μ) pc .lcmp 1 pc2) (hd : Dj (M_c μ) pc2 (.ifCond .eq off) 3 npc off tgt) (kt : x = y → V E μ K tgt L st h c) (kf : ¬ (x = y) → V E μ K npc L st h c) : V E μ K pc L (.long y :: .long x :: st) h c := V_lcmp hd0 (V_if_eq hd (fun q => kt (lgc_eq.mp q)) (fun q => kf (fun z => q (lgc_eq.mpr z))))
theorem U_lcmp_ne {off : Int} {x y : Int64} (hd0 : Dc (M_c μ) pc .lcmp 1 pc2) (hd : Dj (M_c μ) pc2 (.ifCond .ne off) 3 npc off tgt) (kt : ¬ x = y → V E μ K tgt L st h c) (kf : ¬ (¬ x = y) → V E μ K npc L st h c) : V E μ K pc L (.long y :: .long x :: st) h c := V_lcmp hd0 (V_if_ne hd (fun q => kt (fun z => q (lgc_eq.mpr z))) (fun q => kf (fun z => z (lgc_eq.mp q))))
theorem U_lcmp_lt {off : Int} {x y : Int64} (hd0 : Dc (M_c μ) pc .lcmp 1 pc2) (hd : Dj (M_c μ) pc2 (.ifCond .lt off) 3 npc off tgt) (kt : x < y → V E μ K tgt L st h c) (kf : ¬ (x < y) → V E μ K npc L st h c) : V E μ K pc L (.long y :: .long x :: st) h c := V_lcmp hd0 (V_if_lt hd (fun q => kt (lgc_lt.mp q)) (fun q => kf (fun z => q (lgc_lt.mpr z))))
theorem U_lcmp_ge {off : Int} {x y : Int64} (hd0 : Dc (M_c μ) pc .lcmp 1 pc2) (hd : Dj (M_c μ) pc2 (.ifCond .ge off) 3 npc off tgt) (kt : y ≤ x → V E μ K tgt L st h c) (kf : ¬ (y ≤ x) → V E μ K npc L st h c) : V E μ K pc L (.long y :: .long x :: st) h c := V_lcmp hd0 (V_if_ge hd (fun q => kt (lgc_ge.mp q)) (fun q => kf (fun z => q (lgc_ge.mpr z))))
theorem U_lcmp_gt {off : Int} {x y : Int64} (hd0 : Dc (M_c μ) pc .lcmp 1 pc2) (hd : Dj (M_c μ) pc2 (.ifCond .gt off) 3 npc off tgt) (kt : y < x → V E μ K tgt L st h c) (kf : ¬ (y < x) → V E μ K npc L st h c) : V E μ K pc L (.long y :: .long x :: st) h c := V_lcmp hd0 (V_if_gt hd (fun q => kt (lgc_gt.mp q)) (fun q => kf (fun z => q (lgc_gt.mpr z))))
theorem U_lcmp_le {off : Int} {x y : Int64} (hd0 : Dc (M_c μ) pc .lcmp 1 pc2) (hd : Dj (M_c μ) pc2 (.ifCond .le off) 3 npc off tgt) (kt : x ≤ y → V E μ K tgt L st h c) (kf : ¬ (x ≤ y) → V E μ K npc L st h c) : V E μ K pc L (.long y :: .long x :: st) h c := V_lcmp hd0 (V_if_le hd (fun q => kt (lgc_le.mp q)) (fun q => kf (fun z => q (lgc_le.mpr z))))
theorem U_ifb_eq {off : Int} {p : Prop} [Decidable p] (hd : Dj (M_c μ) pc (.ifCond .eq off) 3 npc off tgt) (kt : ¬ p → V E μ K tgt L st h c) (kf : p → V E μ K npc L st h c) : V E μ K pc L (.int (b2i p) :: st) h c := V_if_eq hd (fun q => kt (b2i_0.mp q)) (fun q => kf (Decidable.of_not_not (fun z => q (b2i_0.mpr z))))
theorem U_ifb_ne {off : Int} {p : Prop} [Decidable p] (hd : Dj (M_c μ) pc (.ifCond .ne off) 3 npc off tgt) (kt : p → V E μ K tgt L st h c) (kf : ¬ p → V E μ K npc L st h c) : V E μ K pc L (.int (b2i p) :: st) h c := V_if_ne hd (fun q => kt (Decidable.of_not_not (fun z => q (b2i_0.mpr z)))) (fun q => kf (b2i_0.mp q))
end VR
def SH : List aC := [.inr (11, [4, 6, 13, 20, 21, 24, 31, 32, 39, 43, 45, 48, 0, 0]), .inr (8, [5, 0, 0, 0, 0, 0]), .inl (1, 320, []), .inr (3, [7, 8, 9, 10, 11, 12, 0, 0, 0, 0, 0]), .inl (0, 5, []), .inl (0, 25, []), .inl (0, 12, []), .inl (0, 12, []), .inl (0, 12, []), .inl (0, 3, []), .inr (3, [14, 15, 16, 17, 18, 19, 0, 0, 0, 0, 0]), .inl (0, 5, []), .inl (0, 25, []), .inl (0, 12, []), .inl (0, 12, []), .inl (0, 12, []), .inl (0, 3, []), .inr (4, [4, 13, 0, 0, 0, 0, 0]), .inr (2, [6, 22, 23]), .inl (0, 5, []), .inl (0, 5, []), .inr (1, [6, 25, 27, 29, 0]), .inr (5, [0, 0, 26, 0]), .inl (0, 72, []), .inr (5, [0, 0, 28, 0]), .inl (0, 96, []), .inr (5, [0, 0, 30, 0]), .inl (0, 120, []), .inl (4, 2, [49, 56]), .inr (7, [6, 21, 27, 29, 24, 33, 34, 35, 36, 37, 38, 0]), .inl (0, 24, []), .inl (0, 24, []), .inl (0, 24, []), .inl (0, 12, []), .inl (0, 12, []), .inl (0, 12, []), .inr (0, [21, 27, 40, 41, 42, 0, 0]), .inl (0, 12, []), .inl (0, 12, []), .inl (0, 12, []), .inr (9, [6, 21, 44]), .inl (0, 5, []), .inr (10, [6, 46, 47]), .inl (3, 25, []), .inl (3, 25, []), .inl (5, 4, [63, 65, 67, 69]), .inr (1, [6, 50, 52, 54, 0]), .inr (5, [0, 0, 51, 0]), .inl (0, 72, []), .inr (5, [0, 0, 53, 0]), .inl (0, 96, []), .inr (5, [0, 0, 55, 0]), .inl (0, 120, []), .inr (1, [6, 57, 59, 61, 0]), .inr (5, [0, 0, 58, 0]), .inl (0, 72, []), .inr (5, [0, 0, 60, 0]), .inl (0, 96, []), .inr (5, [0, 0, 62, 0]), .inl (0, 120, []), .inr (6, [64, 0, 0]), .inl (0, 40, []), .inr (6, [66, 0, 0]), .inl (0, 40, []), .inr (6, [68, 0, 0]), .inl (0, 40, []), .inr (6, [70, 0, 0]), .inl (0, 40, []), .inr (12, [72, 0, 0, 0, 0, 0, 0, 0, 0, 73, 74, 75, 76, 77, 78, 79, 80, 81, 82, 83, 0, 84, 85, 86, 87, 88, 89, 90, 0, 0, 91, 92, 1, 93, 94, 95, 96, 0]), .inl (0, 320, []), .inl (0, 10, []), .inl (0, 40, []), .inl (0, 8, []), .inl (0, 8, []), .inl (0, 5, []), .inl (0, 25, []), .inl (0, 48, []), .inl (0, 8, []), .inl (0, 5, []), .inl (0, 25, []), .inl (0, 48, []), .inl (0, 5, []), .inl (0, 900, []), .inl (0, 24, []), .inl (0, 24, []), .inl (2, 24, []), .inl (2, 24, []), .inl (0, 12, []), .inl (3, 25, []), .inl (3, 25, []), .inl (2, 2, []), .inl (0, 4, []), .inl (0, 4, []), .inl (0, 160, [])]
theorem s_0 : SH[0]? = some (.inr (11, [4, 6, 13, 20, 21, 24, 31, 32, 39, 43, 45, 48, 0, 0])) := rfl
theorem s_1 : SH[1]? = some (.inr (8, [5, 0, 0, 0, 0, 0])) := rfl
theorem s_2 : SH[2]? = some (.inl (1, 320, [])) := rfl
theorem s_3 : SH[3]? = some (.inr (3, [7, 8, 9, 10, 11, 12, 0, 0, 0, 0, 0])) := rfl
theorem s_4 : SH[4]? = some (.inl (0, 5, [])) := rfl
theorem s_5 : SH[5]? = some (.inl (0, 25, [])) := rfl
theorem s_6 : SH[6]? = some (.inl (0, 12, [])) := rfl
theorem s_7 : SH[7]? = some (.inl (0, 12, [])) := rfl
theorem s_8 : SH[8]? = some (.inl (0, 12, [])) := rfl
theorem s_9 : SH[9]? = some (.inl (0, 3, [])) := rfl
theorem s_10 : SH[10]? = some (.inr (3, [14, 15, 16, 17, 18, 19, 0, 0, 0, 0, 0])) := rfl
theorem s_11 : SH[11]? = some (.inl (0, 5, [])) := rfl
theorem s_12 : SH[12]? = some (.inl (0, 25, [])) := rfl
theorem s_13 : SH[13]? = some (.inl (0, 12, [])) := rfl
theorem s_14 : SH[14]? = some (.inl (0, 12, [])) := rfl
theorem s_15 : SH[15]? = some (.inl (0, 12, [])) := rfl
theorem s_16 : SH[16]? = some (.inl (0, 3, [])) := rfl
theorem s_17 : SH[17]? = some (.inr (4, [4, 13, 0, 0, 0, 0, 0])) := rfl
theorem s_18 : SH[18]? = some (.inr (2, [6, 22, 23])) := rfl
theorem s_19 : SH[19]? = some (.inl (0, 5, [])) := rfl
theorem s_20 : SH[20]? = some (.inl (0, 5, [])) := rfl
theorem s_21 : SH[21]? = some (.inr (1, [6, 25, 27, 29, 0])) := rfl
theorem s_22 : SH[22]? = some (.inr (5, [0, 0, 26, 0])) := rfl
theorem s_23 : SH[23]? = some (.inl (0, 72, [])) := rfl
theorem s_24 : SH[24]? = some (.inr (5, [0, 0, 28, 0])) := rfl
theorem s_25 : SH[25]? = some (.inl (0, 96, [])) := rfl
theorem s_26 : SH[26]? = some (.inr (5, [0, 0, 30, 0])) := rfl
theorem s_27 : SH[27]? = some (.inl (0, 120, [])) := rfl
theorem s_28 : SH[28]? = some (.inl (4, 2, [49, 56])) := rfl
theorem s_29 : SH[29]? = some (.inr (7, [6, 21, 27, 29, 24, 33, 34, 35, 36, 37, 38, 0])) := rfl
theorem s_30 : SH[30]? = some (.inl (0, 24, [])) := rfl
theorem s_31 : SH[31]? = some (.inl (0, 24, [])) := rfl
theorem s_32 : SH[32]? = some (.inl (0, 24, [])) := rfl
theorem s_33 : SH[33]? = some (.inl (0, 12, [])) := rfl
theorem s_34 : SH[34]? = some (.inl (0, 12, [])) := rfl
theorem s_35 : SH[35]? = some (.inl (0, 12, [])) := rfl
theorem s_36 : SH[36]? = some (.inr (0, [21, 27, 40, 41, 42, 0, 0])) := rfl
theorem s_37 : SH[37]? = some (.inl (0, 12, [])) := rfl
theorem s_38 : SH[38]? = some (.inl (0, 12, [])) := rfl
theorem s_39 : SH[39]? = some (.inl (0, 12, [])) := rfl
theorem s_40 : SH[40]? = some (.inr (9, [6, 21, 44])) := rfl
theorem s_41 : SH[41]? = some (.inl (0, 5, [])) := rfl
theorem s_42 : SH[42]? = some (.inr (10, [6, 46, 47])) := rfl
theorem s_43 : SH[43]? = some (.inl (3, 25, [])) := rfl
theorem s_44 : SH[44]? = some (.inl (3, 25, [])) := rfl
theorem s_45 : SH[45]? = some (.inl (5, 4, [63, 65, 67, 69])) := rfl
theorem s_46 : SH[46]? = some (.inr (1, [6, 50, 52, 54, 0])) := rfl
theorem s_47 : SH[47]? = some (.inr (5, [0, 0, 51, 0])) := rfl
theorem s_48 : SH[48]? = some (.inl (0, 72, [])) := rfl
theorem s_49 : SH[49]? = some (.inr (5, [0, 0, 53, 0])) := rfl
theorem s_50 : SH[50]? = some (.inl (0, 96, [])) := rfl
theorem s_51 : SH[51]? = some (.inr (5, [0, 0, 55, 0])) := rfl
theorem s_52 : SH[52]? = some (.inl (0, 120, [])) := rfl
theorem s_53 : SH[53]? = some (.inr (1, [6, 57, 59, 61, 0])) := rfl
theorem s_54 : SH[54]? = some (.inr (5, [0, 0, 58, 0])) := rfl
theorem s_55 : SH[55]? = some (.inl (0, 72, [])) := rfl
theorem s_56 : SH[56]? = some (.inr (5, [0, 0, 60, 0])) := rfl
theorem s_57 : SH[57]? = some (.inl (0, 96, [])) := rfl
theorem s_58 : SH[58]? = some (.inr (5, [0, 0, 62, 0])) := rfl
theorem s_59 : SH[59]? = some (.inl (0, 120, [])) := rfl
theorem s_60 : SH[60]? = some (.inr (6, [64, 0, 0])) := rfl
theorem s_61 : SH[61]? = some (.inl (0, 40, [])) := rfl
theorem s_62 : SH[62]? = some (.inr (6, [66, 0, 0])) := rfl
theorem s_63 : SH[63]? = some (.inl (0, 40, [])) := rfl
theorem s_64 : SH[64]? = some (.inr (6, [68, 0, 0])) := rfl
theorem s_65 : SH[65]? = some (.inl (0, 40, [])) := rfl
theorem s_66 : SH[66]? = some (.inr (6, [70, 0, 0])) := rfl
theorem s_67 : SH[67]? = some (.inl (0, 40, [])) := rfl
theorem s_68 : SH[68]? = some (.inr (12, [72, 0, 0, 0, 0, 0, 0, 0, 0, 73, 74, 75, 76, 77, 78, 79, 80, 81, 82, 83, 0, 84, 85, 86, 87, 88, 89, 90, 0, 0, 91, 92, 1, 93, 94, 95, 96, 0])) := rfl
theorem s_69 : SH[69]? = some (.inl (0, 320, [])) := rfl
theorem s_70 : SH[70]? = some (.inl (0, 10, [])) := rfl
theorem s_71 : SH[71]? = some (.inl (0, 40, [])) := rfl
theorem s_72 : SH[72]? = some (.inl (0, 8, [])) := rfl
theorem s_73 : SH[73]? = some (.inl (0, 8, [])) := rfl
theorem s_74 : SH[74]? = some (.inl (0, 5, [])) := rfl
theorem s_75 : SH[75]? = some (.inl (0, 25, [])) := rfl
theorem s_76 : SH[76]? = some (.inl (0, 48, [])) := rfl
theorem s_77 : SH[77]? = some (.inl (0, 8, [])) := rfl
theorem s_78 : SH[78]? = some (.inl (0, 5, [])) := rfl
theorem s_79 : SH[79]? = some (.inl (0, 25, [])) := rfl
theorem s_80 : SH[80]? = some (.inl (0, 48, [])) := rfl
theorem s_81 : SH[81]? = some (.inl (0, 5, [])) := rfl
theorem s_82 : SH[82]? = some (.inl (0, 900, [])) := rfl
theorem s_83 : SH[83]? = some (.inl (0, 24, [])) := rfl
theorem s_84 : SH[84]? = some (.inl (0, 24, [])) := rfl
theorem s_85 : SH[85]? = some (.inl (2, 24, [])) := rfl
theorem s_86 : SH[86]? = some (.inl (2, 24, [])) := rfl
theorem s_87 : SH[87]? = some (.inl (0, 12, [])) := rfl
theorem s_88 : SH[88]? = some (.inl (3, 25, [])) := rfl
theorem s_89 : SH[89]? = some (.inl (3, 25, [])) := rfl
theorem s_90 : SH[90]? = some (.inl (2, 2, [])) := rfl
theorem s_91 : SH[91]? = some (.inl (0, 4, [])) := rfl
theorem s_92 : SH[92]? = some (.inl (0, 4, [])) := rfl
theorem s_93 : SH[93]? = some (.inl (0, 160, [])) := rfl
end
section
theorem gt_1 {w : Cond} (i : Nat) (h0 : tables_1_1[i]? = some w) (hg : goodWord w = true) : w ∈ gtb := by
  have h := List.mem_of_getElem? h0
  refine List.mem_filter.mpr ⟨List.mem_append_right _ ?_, hg⟩
  exact List.mem_append_left _ (h)
theorem gt_2 {w : Cond} (i : Nat) (h0 : tables_1_2[i]? = some w) (hg : goodWord w = true) : w ∈ gtb := by
  have h := List.mem_of_getElem? h0
  refine List.mem_filter.mpr ⟨List.mem_append_right _ ?_, hg⟩
  exact List.mem_append_right _ (List.mem_append_left _ (h))
theorem gt_3 {w : Cond} (i : Nat) (h0 : tables_1_3[i]? = some w) (hg : goodWord w = true) : w ∈ gtb := by
  have h := List.mem_of_getElem? h0
  refine List.mem_filter.mpr ⟨List.mem_append_right _ ?_, hg⟩
  exact List.mem_append_right _ (List.mem_append_right _ (List.mem_append_left _ (h)))
theorem gt_4 {w : Cond} (i : Nat) (h0 : tables_1_4[i]? = some w) (hg : goodWord w = true) : w ∈ gtb := by
  have h := List.mem_of_getElem? h0
  refine List.mem_filter.mpr ⟨List.mem_append_right _ ?_, hg⟩
  exact List.mem_append_right _ (List.mem_append_right _ (List.mem_append_right _ (List.mem_append_left _ (h))))
theorem gt_5 {w : Cond} (i : Nat) (h0 : tables_1_5[i]? = some w) (hg : goodWord w = true) : w ∈ gtb := by
  have h := List.mem_of_getElem? h0
  refine List.mem_filter.mpr ⟨List.mem_append_right _ ?_, hg⟩
  exact List.mem_append_right _ (List.mem_append_right _ (List.mem_append_right _ (List.mem_append_right _ (List.mem_append_left _ (h)))))
theorem gt_6 {w : Cond} (i : Nat) (h0 : tables_1_6[i]? = some w) (hg : goodWord w = true) : w ∈ gtb := by
  have h := List.mem_of_getElem? h0
  refine List.mem_filter.mpr ⟨List.mem_append_right _ ?_, hg⟩
  exact List.mem_append_right _ (List.mem_append_right _ (List.mem_append_right _ (List.mem_append_right _ (List.mem_append_right _ (List.mem_append_left _ (h))))))
theorem gt_7 {w : Cond} (i : Nat) (h0 : tables_1_7[i]? = some w) (hg : goodWord w = true) : w ∈ gtb := by
  have h := List.mem_of_getElem? h0
  refine List.mem_filter.mpr ⟨List.mem_append_right _ ?_, hg⟩
  exact List.mem_append_right _ (List.mem_append_right _ (List.mem_append_right _ (List.mem_append_right _ (List.mem_append_right _ (List.mem_append_right _ (h))))))
def yX0_init : MethodName := ⟨RX0, "<init>", "(LLatePrices$News;LLatePrices$Ledger;)V"⟩
abbrev cX0_init : ByteArray := prog_2_method_1_code
def mX0_init : aM := (yX0_init, cX0_init, 3, none, 0, 2, { frames := 1, cells := 3, slots := 36, locals := 20 })
theorem ok_X0_init : okM mX0_init := ⟨by decide, gt_2 50 rfl rfl, gt_1 11 rfl rfl, by decide, by decide, by decide +kernel⟩
def yX0_watch : MethodName := ⟨RX0, "watch", "(IZ)V"⟩
abbrev cX0_watch : ByteArray := prog_2_method_2_code
def mX0_watch : aM := (yX0_watch, cX0_watch, 5, none, 0, 2, { frames := 5, cells := 0, slots := 0, locals := 123 })
theorem ok_X0_watch : okM mX0_watch := ⟨by decide, gt_4 80 rfl rfl, gt_1 11 rfl rfl, by decide, by decide, by decide +kernel⟩
def yX0_setStretch : MethodName := ⟨RX0, "setStretch", "(IIZ)V"⟩
abbrev cX0_setStretch : ByteArray := prog_2_method_3_code
def mX0_setStretch : aM := (yX0_setStretch, cX0_setStretch, 6, none, 0, 3, { frames := 4, cells := 0, slots := 0, locals := 98 })
theorem ok_X0_setStretch : okM mX0_setStretch := ⟨by decide, gt_4 85 rfl rfl, gt_1 11 rfl rfl, by decide, by decide, by decide +kernel⟩
def yX0_trade : MethodName := ⟨RX0, "trade", "(I)V"⟩
abbrev cX0_trade : ByteArray := prog_2_method_4_code
def mX0_trade : aM := (yX0_trade, cX0_trade, 6, none, 0, 1, { frames := 3, cells := 0, slots := 0, locals := 68 })
theorem ok_X0_trade : okM mX0_trade := ⟨by decide, gt_4 92 rfl rfl, gt_1 11 rfl rfl, by decide, by decide, by decide +kernel⟩
def yX0_margin : MethodName := ⟨RX0, "margin", "(II)I"⟩
abbrev cX0_margin : ByteArray := prog_2_method_5_code
def mX0_margin : aM := (yX0_margin, cX0_margin, 3, (some .int), 1, 2, { frames := 1, cells := 0, slots := 0, locals := 22 })
theorem ok_X0_margin : okM mX0_margin := ⟨by decide, gt_4 100 rfl rfl, gt_1 11 rfl rfl, by decide, by decide, by decide +kernel⟩
def yX0_best : MethodName := ⟨RX0, "best", "(I)I"⟩
abbrev cX0_best : ByteArray := prog_2_method_6_code
def mX0_best : aM := (yX0_best, cX0_best, 5, (some .int), 1, 1, { frames := 2, cells := 0, slots := 0, locals := 44 })
theorem ok_X0_best : okM mX0_best := ⟨by decide, gt_4 96 rfl rfl, gt_1 11 rfl rfl, by decide, by decide, by decide +kernel⟩
def yX0_firstFrom : MethodName := ⟨RX0, "firstFrom", "(I)I"⟩
abbrev cX0_firstFrom : ByteArray := prog_2_method_7_code
def mX0_firstFrom : aM := (yX0_firstFrom, cX0_firstFrom, 7, (some .int), 1, 1, { frames := 2, cells := 0, slots := 0, locals := 44 })
theorem ok_X0_firstFrom : okM mX0_firstFrom := ⟨by decide, gt_4 108 rfl rfl, gt_1 11 rfl rfl, by decide, by decide, by decide +kernel⟩
def yX1_init : MethodName := ⟨RX1, "<init>", "(LLatePrices$Plan;)V"⟩
abbrev cX1_init : ByteArray := prog_3_method_1_code
def mX1_init : aM := (yX1_init, cX1_init, 2, none, 0, 1, { frames := 2, cells := 6, slots := 372, locals := 43 })
theorem ok_X1_init : okM mX1_init := ⟨by decide, gt_1 189 rfl rfl, gt_1 7 rfl rfl, by decide, by decide, by decide +kernel⟩
def yX1_clear : MethodName := ⟨RX1, "clear", "()V"⟩
abbrev cX1_clear : ByteArray := prog_3_method_2_code
def mX1_clear : aM := (yX1_clear, cX1_clear, 1, none, 0, 0, { frames := 0, cells := 0, slots := 0, locals := 0 })
theorem ok_X1_clear : okM mX1_clear := ⟨by decide, gt_3 86 rfl rfl, gt_1 7 rfl rfl, by decide, by decide, by decide +kernel⟩
def yX1_become : MethodName := ⟨RX1, "become", "(LLatePrices$Ledger;)V"⟩
abbrev cX1_become : ByteArray := prog_3_method_3_code
def mX1_become : aM := (yX1_become, cX1_become, 2, none, 0, 1, { frames := 2, cells := 0, slots := 0, locals := 47 })
theorem ok_X1_become : okM mX1_become := ⟨by decide, gt_4 227 rfl rfl, gt_1 7 rfl rfl, by decide, by decide, by decide +kernel⟩
def yX1_priceAt : MethodName := ⟨RX1, "priceAt", "(II)I"⟩
abbrev cX1_priceAt : ByteArray := prog_3_method_4_code
def mX1_priceAt : aM := (yX1_priceAt, cX1_priceAt, 7, (some .int), 1, 2, { frames := 1, cells := 0, slots := 0, locals := 22 })
theorem ok_X1_priceAt : okM mX1_priceAt := ⟨by decide, gt_3 167 rfl rfl, gt_1 7 rfl rfl, by decide, by decide, by decide +kernel⟩
def yX1_lastMinute : MethodName := ⟨RX1, "lastMinute", "(I)I"⟩
abbrev cX1_lastMinute : ByteArray := prog_3_method_5_code
def mX1_lastMinute : aM := (yX1_lastMinute, cX1_lastMinute, 5, (some .int), 1, 1, { frames := 3, cells := 0, slots := 0, locals := 75 })
theorem ok_X1_lastMinute : okM mX1_lastMinute := ⟨by decide, gt_3 217 rfl rfl, gt_1 7 rfl rfl, by decide, by decide, by decide +kernel⟩
def yX1_lastUnmoved : MethodName := ⟨RX1, "lastUnmoved", "(I)I"⟩
abbrev cX1_lastUnmoved : ByteArray := prog_3_method_6_code
def mX1_lastUnmoved : aM := (yX1_lastUnmoved, cX1_lastUnmoved, 8, (some .int), 1, 1, { frames := 2, cells := 0, slots := 0, locals := 48 })
theorem ok_X1_lastUnmoved : okM mX1_lastUnmoved := ⟨by decide, gt_3 221 rfl rfl, gt_1 7 rfl rfl, by decide, by decide, by decide +kernel⟩
def yX1_isUp : MethodName := ⟨RX1, "isUp", "(II)Z"⟩
abbrev cX1_isUp : ByteArray := prog_3_method_7_code
def mX1_isUp : aM := (yX1_isUp, cX1_isUp, 3, (some .boolean), 1, 2, { frames := 4, cells := 0, slots := 0, locals := 99 })
theorem ok_X1_isUp : okM mX1_isUp := ⟨by decide, gt_4 17 rfl rfl, gt_1 7 rfl rfl, by decide, by decide, by decide +kernel⟩
def yX2_init : MethodName := ⟨RX2, "<init>", "(LLatePrices$Plan;)V"⟩
abbrev cX2_init : ByteArray := prog_4_method_1_code
def mX2_init : aM := (yX2_init, cX2_init, 2, none, 0, 1, { frames := 1, cells := 2, slots := 10, locals := 20 })
theorem ok_X2_init : okM mX2_init := ⟨by decide, gt_1 170 rfl rfl, gt_1 6 rfl rfl, by decide, by decide, by decide +kernel⟩
def yX2_spread : MethodName := ⟨RX2, "spread", "(II)V"⟩
abbrev cX2_spread : ByteArray := prog_4_method_2_code
def mX2_spread : aM := (yX2_spread, cX2_spread, 6, none, 0, 2, { frames := 2, cells := 0, slots := 0, locals := 50 })
theorem ok_X2_spread : okM mX2_spread := ⟨by decide, gt_3 118 rfl rfl, gt_1 6 rfl rfl, by decide, by decide, by decide +kernel⟩
def yX2_firstReached : MethodName := ⟨RX2, "firstReached", "(I)I"⟩
abbrev cX2_firstReached : ByteArray := prog_4_method_3_code
def mX2_firstReached : aM := (yX2_firstReached, cX2_firstReached, 4, (some .int), 1, 1, { frames := 0, cells := 0, slots := 0, locals := 0 })
theorem ok_X2_firstReached : okM mX2_firstReached := ⟨by decide, gt_3 123 rfl rfl, gt_1 6 rfl rfl, by decide, by decide, by decide +kernel⟩
def yX2_goOn : MethodName := ⟨RX2, "goOn", "(I)V"⟩
abbrev cX2_goOn : ByteArray := prog_4_method_4_code
def mX2_goOn : aM := (yX2_goOn, cX2_goOn, 5, none, 0, 1, { frames := 1, cells := 0, slots := 0, locals := 26 })
theorem ok_X2_goOn : okM mX2_goOn := ⟨by decide, gt_3 127 rfl rfl, gt_1 6 rfl rfl, by decide, by decide, by decide +kernel⟩
def yX2_gather : MethodName := ⟨RX2, "gather", "(II)V"⟩
abbrev cX2_gather : ByteArray := prog_4_method_5_code
def mX2_gather : aM := (yX2_gather, cX2_gather, 6, none, 0, 2, { frames := 2, cells := 0, slots := 0, locals := 50 })
theorem ok_X2_gather : okM mX2_gather := ⟨by decide, gt_3 150 rfl rfl, gt_1 6 rfl rfl, by decide, by decide, by decide +kernel⟩
def yX2_lastLeft : MethodName := ⟨RX2, "lastLeft", "(I)I"⟩
abbrev cX2_lastLeft : ByteArray := prog_4_method_6_code
def mX2_lastLeft : aM := (yX2_lastLeft, cX2_lastLeft, 4, (some .int), 1, 1, { frames := 0, cells := 0, slots := 0, locals := 0 })
theorem ok_X2_lastLeft : okM mX2_lastLeft := ⟨by decide, gt_3 154 rfl rfl, gt_1 6 rfl rfl, by decide, by decide, by decide +kernel⟩
def yX2_goBack : MethodName := ⟨RX2, "goBack", "(I)V"⟩
abbrev cX2_goBack : ByteArray := prog_4_method_7_code
def mX2_goBack : aM := (yX2_goBack, cX2_goBack, 5, none, 0, 1, { frames := 1, cells := 0, slots := 0, locals := 26 })
theorem ok_X2_goBack : okM mX2_goBack := ⟨by decide, gt_3 158 rfl rfl, gt_1 6 rfl rfl, by decide, by decide, by decide +kernel⟩
def yX2_gatherAtOnce : MethodName := ⟨RX2, "gatherAtOnce", "(I)V"⟩
abbrev cX2_gatherAtOnce : ByteArray := prog_4_method_8_code
def mX2_gatherAtOnce : aM := (yX2_gatherAtOnce, cX2_gatherAtOnce, 2, none, 0, 1, { frames := 1, cells := 0, slots := 0, locals := 23 })
theorem ok_X2_gatherAtOnce : okM mX2_gatherAtOnce := ⟨by decide, gt_3 196 rfl rfl, gt_1 6 rfl rfl, by decide, by decide, by decide +kernel⟩
def yX2_arrival : MethodName := ⟨RX2, "arrival", "(III)I"⟩
abbrev cX2_arrival : ByteArray := prog_4_method_9_code
def mX2_arrival : aM := (yX2_arrival, cX2_arrival, 4, (some .int), 1, 3, { frames := 3, cells := 0, slots := 0, locals := 75 })
theorem ok_X2_arrival : okM mX2_arrival := ⟨by decide, gt_3 114 rfl rfl, gt_1 6 rfl rfl, by decide, by decide, by decide +kernel⟩
def yX2_latest : MethodName := ⟨RX2, "latest", "(III)I"⟩
abbrev cX2_latest : ByteArray := prog_4_method_10_code
def mX2_latest : aM := (yX2_latest, cX2_latest, 4, (some .int), 1, 3, { frames := 3, cells := 0, slots := 0, locals := 75 })
theorem ok_X2_latest : okM mX2_latest := ⟨by decide, gt_3 146 rfl rfl, gt_1 6 rfl rfl, by decide, by decide, by decide +kernel⟩
def yX3_init : MethodName := ⟨RX3, "<init>", "()V"⟩
abbrev cX3_init : ByteArray := prog_5_method_1_code
def mX3_init : aM := (yX3_init, cX3_init, 1, none, 0, 0, { frames := 2, cells := 6, slots := 69, locals := 43 })
theorem ok_X3_init : okM mX3_init := ⟨by decide, gt_1 64 rfl rfl, gt_1 3 rfl rfl, by decide, by decide, by decide +kernel⟩
def yX3_clear : MethodName := ⟨RX3, "clear", "()V"⟩
abbrev cX3_clear : ByteArray := prog_5_method_2_code
def mX3_clear : aM := (yX3_clear, cX3_clear, 1, none, 0, 0, { frames := 1, cells := 0, slots := 0, locals := 23 })
theorem ok_X3_clear : okM mX3_clear := ⟨by decide, gt_1 69 rfl rfl, gt_1 3 rfl rfl, by decide, by decide, by decide +kernel⟩
def yX3_become : MethodName := ⟨RX3, "become", "(LLatePrices$Plan;)V"⟩
abbrev cX3_become : ByteArray := prog_5_method_3_code
def mX3_become : aM := (yX3_become, cX3_become, 2, none, 0, 1, { frames := 1, cells := 0, slots := 0, locals := 26 })
theorem ok_X3_become : okM mX3_become := ⟨by decide, gt_3 79 rfl rfl, gt_1 3 rfl rfl, by decide, by decide, by decide +kernel⟩
def yX3_pair : MethodName := ⟨RX3, "pair", "(II)I"⟩
abbrev cX3_pair : ByteArray := prog_5_method_4_code
def mX3_pair : aM := (yX3_pair, cX3_pair, 2, (some .int), 1, 2, { frames := 0, cells := 0, slots := 0, locals := 0 })
theorem ok_X3_pair : okM mX3_pair := ⟨by decide, gt_3 48 rfl rfl, gt_1 3 rfl rfl, by decide, by decide, by decide +kernel⟩
def yX3_allMoves : MethodName := ⟨RX3, "allMoves", "()I"⟩
abbrev cX3_allMoves : ByteArray := prog_5_method_5_code
def mX3_allMoves : aM := (yX3_allMoves, cX3_allMoves, 1, (some .int), 1, 0, { frames := 0, cells := 0, slots := 0, locals := 0 })
theorem ok_X3_allMoves : okM mX3_allMoves := ⟨by decide, gt_3 62 rfl rfl, gt_1 3 rfl rfl, by decide, by decide, by decide +kernel⟩
def yX3_openFrom : MethodName := ⟨RX3, "openFrom", "(II)I"⟩
abbrev cX3_openFrom : ByteArray := prog_5_method_6_code
def mX3_openFrom : aM := (yX3_openFrom, cX3_openFrom, 7, (some .int), 1, 2, { frames := 0, cells := 0, slots := 0, locals := 0 })
theorem ok_X3_openFrom : okM mX3_openFrom := ⟨by decide, gt_3 132 rfl rfl, gt_1 3 rfl rfl, by decide, by decide, by decide +kernel⟩
def yX3_openUpTo : MethodName := ⟨RX3, "openUpTo", "(II)I"⟩
abbrev cX3_openUpTo : ByteArray := prog_5_method_7_code
def mX3_openUpTo : aM := (yX3_openUpTo, cX3_openUpTo, 7, (some .int), 1, 2, { frames := 0, cells := 0, slots := 0, locals := 0 })
theorem ok_X3_openUpTo : okM mX3_openUpTo := ⟨by decide, gt_3 162 rfl rfl, gt_1 3 rfl rfl, by decide, by decide, by decide +kernel⟩
def yX4_init : MethodName := ⟨RX4, "<init>", "(LLatePrices$Tape;LLatePrices$Plan;)V"⟩
abbrev cX4_init : ByteArray := prog_6_method_1_code
def mX4_init : aM := (yX4_init, cX4_init, 3, none, 0, 2, { frames := 1, cells := 0, slots := 0, locals := 20 })
theorem ok_X4_init : okM mX4_init := ⟨by decide, gt_1 140 rfl rfl, gt_1 5 rfl rfl, by decide, by decide, by decide +kernel⟩
def yX4_parse : MethodName := ⟨RX4, "parse", "()I"⟩
abbrev cX4_parse : ByteArray := prog_6_method_2_code
def mX4_parse : aM := (yX4_parse, cX4_parse, 2, (some .int), 1, 0, { frames := 8, cells := 0, slots := 0, locals := 168 })
theorem ok_X4_parse : okM mX4_parse := ⟨by decide, gt_2 194 rfl rfl, gt_1 5 rfl rfl, by decide, by decide, by decide +kernel⟩
def yX4_fail : MethodName := ⟨RX4, "fail", "(I)Z"⟩
abbrev cX4_fail : ByteArray := prog_6_method_3_code
def mX4_fail : aM := (yX4_fail, cX4_fail, 2, (some .boolean), 1, 1, { frames := 0, cells := 0, slots := 0, locals := 0 })
theorem ok_X4_fail : okM mX4_fail := ⟨by decide, gt_2 215 rfl rfl, gt_1 5 rfl rfl, by decide, by decide, by decide +kernel⟩
def yX4_isOf : MethodName := ⟨RX4, "isOf", "(I)Z"⟩
abbrev cX4_isOf : ByteArray := prog_6_method_4_code
def mX4_isOf : aM := (yX4_isOf, cX4_isOf, 2, (some .boolean), 1, 1, { frames := 1, cells := 0, slots := 0, locals := 21 })
theorem ok_X4_isOf : okM mX4_isOf := ⟨by decide, gt_2 211 rfl rfl, gt_1 5 rfl rfl, by decide, by decide, by decide +kernel⟩
def yX4_takeNumber : MethodName := ⟨RX4, "takeNumber", "(II)Z"⟩
abbrev cX4_takeNumber : ByteArray := prog_6_method_5_code
def mX4_takeNumber : aM := (yX4_takeNumber, cX4_takeNumber, 3, (some .boolean), 1, 2, { frames := 2, cells := 0, slots := 0, locals := 46 })
theorem ok_X4_takeNumber : okM mX4_takeNumber := ⟨by decide, gt_3 40 rfl rfl, gt_1 5 rfl rfl, by decide, by decide, by decide +kernel⟩
def yX4_takeLine : MethodName := ⟨RX4, "takeLine", "()Z"⟩
abbrev cX4_takeLine : ByteArray := prog_6_method_6_code
def mX4_takeLine : aM := (yX4_takeLine, cX4_takeLine, 1, (some .boolean), 1, 0, { frames := 7, cells := 0, slots := 0, locals := 148 })
theorem ok_X4_takeLine : okM mX4_takeLine := ⟨by decide, gt_2 219 rfl rfl, gt_1 5 rfl rfl, by decide, by decide, by decide +kernel⟩
def yX4_takePlace : MethodName := ⟨RX4, "takePlace", "()Z"⟩
abbrev cX4_takePlace : ByteArray := prog_6_method_7_code
def mX4_takePlace : aM := (yX4_takePlace, cX4_takePlace, 1, (some .boolean), 1, 0, { frames := 3, cells := 0, slots := 0, locals := 68 })
theorem ok_X4_takePlace : okM mX4_takePlace := ⟨by decide, gt_3 36 rfl rfl, gt_1 5 rfl rfl, by decide, by decide, by decide +kernel⟩
def yX4_takeWay : MethodName := ⟨RX4, "takeWay", "()Z"⟩
abbrev cX4_takeWay : ByteArray := prog_6_method_8_code
def mX4_takeWay : aM := (yX4_takeWay, cX4_takeWay, 4, (some .boolean), 1, 0, { frames := 3, cells := 0, slots := 0, locals := 68 })
theorem ok_X4_takeWay : okM mX4_takeWay := ⟨by decide, gt_3 45 rfl rfl, gt_1 5 rfl rfl, by decide, by decide, by decide +kernel⟩
def yX4_takeShut : MethodName := ⟨RX4, "takeShut", "()Z"⟩
abbrev cX4_takeShut : ByteArray := prog_6_method_9_code
def mX4_takeShut : aM := (yX4_takeShut, cX4_takeShut, 4, (some .boolean), 1, 0, { frames := 3, cells := 0, slots := 0, locals := 68 })
theorem ok_X4_takeShut : okM mX4_takeShut := ⟨by decide, gt_3 53 rfl rfl, gt_1 5 rfl rfl, by decide, by decide, by decide +kernel⟩
def yX4_takeMoves : MethodName := ⟨RX4, "takeMoves", "()Z"⟩
abbrev cX4_takeMoves : ByteArray := prog_6_method_10_code
def mX4_takeMoves : aM := (yX4_takeMoves, cX4_takeMoves, 2, (some .boolean), 1, 0, { frames := 3, cells := 0, slots := 0, locals := 68 })
theorem ok_X4_takeMoves : okM mX4_takeMoves := ⟨by decide, gt_3 58 rfl rfl, gt_1 5 rfl rfl, by decide, by decide, by decide +kernel⟩
def yX4_takeFirst : MethodName := ⟨RX4, "takeFirst", "()Z"⟩
abbrev cX4_takeFirst : ByteArray := prog_6_method_11_code
def mX4_takeFirst : aM := (yX4_takeFirst, cX4_takeFirst, 1, (some .boolean), 1, 0, { frames := 6, cells := 0, slots := 0, locals := 128 })
theorem ok_X4_takeFirst : okM mX4_takeFirst := ⟨by decide, gt_3 67 rfl rfl, gt_1 5 rfl rfl, by decide, by decide, by decide +kernel⟩
def yX4_takeMost : MethodName := ⟨RX4, "takeMost", "()Z"⟩
abbrev cX4_takeMost : ByteArray := prog_6_method_12_code
def mX4_takeMost : aM := (yX4_takeMost, cX4_takeMost, 1, (some .boolean), 1, 0, { frames := 3, cells := 0, slots := 0, locals := 68 })
theorem ok_X4_takeMost : okM mX4_takeMost := ⟨by decide, gt_3 75 rfl rfl, gt_1 5 rfl rfl, by decide, by decide, by decide +kernel⟩
def yX5_init : MethodName := ⟨RX5, "<init>", "(II)V"⟩
abbrev cX5_init : ByteArray := prog_7_method_1_code
def mX5_init : aM := (yX5_init, cX5_init, 3, none, 0, 2, { frames := 1, cells := 1, slots := 120, locals := 21 })
theorem ok_X5_init : okM mX5_init := ⟨by decide, gt_1 195 rfl rfl, gt_1 8 rfl rfl, by decide, by decide, by decide +kernel⟩
def yX5_at : MethodName := ⟨RX5, "at", "(II)I"⟩
abbrev cX5_at : ByteArray := prog_7_method_2_code
def mX5_at : aM := (yX5_at, cX5_at, 3, (some .int), 1, 2, { frames := 0, cells := 0, slots := 0, locals := 0 })
theorem ok_X5_at : okM mX5_at := ⟨by decide, gt_3 171 rfl rfl, gt_1 8 rfl rfl, by decide, by decide, by decide +kernel⟩
def yX5_put : MethodName := ⟨RX5, "put", "(III)V"⟩
abbrev cX5_put : ByteArray := prog_7_method_3_code
def mX5_put : aM := (yX5_put, cX5_put, 4, none, 0, 3, { frames := 0, cells := 0, slots := 0, locals := 0 })
theorem ok_X5_put : okM mX5_put := ⟨by decide, gt_3 183 rfl rfl, gt_1 8 rfl rfl, by decide, by decide, by decide +kernel⟩
def yX5_grow : MethodName := ⟨RX5, "grow", "()I"⟩
abbrev cX5_grow : ByteArray := prog_7_method_4_code
def mX5_grow : aM := (yX5_grow, cX5_grow, 1, (some .int), 1, 0, { frames := 0, cells := 0, slots := 0, locals := 0 })
theorem ok_X5_grow : okM mX5_grow := ⟨by decide, gt_3 179 rfl rfl, gt_1 8 rfl rfl, by decide, by decide, by decide +kernel⟩
def yX5_become : MethodName := ⟨RX5, "become", "(LLatePrices$Rows;)V"⟩
abbrev cX5_become : ByteArray := prog_7_method_5_code
def mX5_become : aM := (yX5_become, cX5_become, 2, none, 0, 1, { frames := 1, cells := 0, slots := 0, locals := 26 })
theorem ok_X5_become : okM mX5_become := ⟨by decide, gt_4 231 rfl rfl, gt_1 8 rfl rfl, by decide, by decide, by decide +kernel⟩
def yX6_init : MethodName := ⟨RX6, "<init>", "()V"⟩
abbrev cX6_init : ByteArray := prog_8_method_1_code
def mX6_init : aM := (yX6_init, cX6_init, 1, none, 0, 0, { frames := 1, cells := 1, slots := 40, locals := 20 })
theorem ok_X6_init : okM mX6_init := ⟨by decide, gt_2 116 rfl rfl, gt_1 14 rfl rfl, by decide, by decide, by decide +kernel⟩
def yX6_isNothing : MethodName := ⟨RX6, "isNothing", "()Z"⟩
abbrev cX6_isNothing : ByteArray := prog_8_method_2_code
def mX6_isNothing : aM := (yX6_isNothing, cX6_isNothing, 1, (some .boolean), 1, 0, { frames := 0, cells := 0, slots := 0, locals := 0 })
theorem ok_X6_isNothing : okM mX6_isNothing := ⟨by decide, gt_5 22 rfl rfl, gt_1 14 rfl rfl, by decide, by decide, by decide +kernel⟩
def yX6_renew : MethodName := ⟨RX6, "renew", "(II)V"⟩
abbrev cX6_renew : ByteArray := prog_8_method_3_code
def mX6_renew : aM := (yX6_renew, cX6_renew, 3, none, 0, 2, { frames := 1, cells := 0, slots := 0, locals := 23 })
theorem ok_X6_renew : okM mX6_renew := ⟨by decide, gt_5 11 rfl rfl, gt_1 14 rfl rfl, by decide, by decide, by decide +kernel⟩
def yX6_put : MethodName := ⟨RX6, "put", "(II)Z"⟩
abbrev cX6_put : ByteArray := prog_8_method_4_code
def mX6_put : aM := (yX6_put, cX6_put, 3, (some .boolean), 1, 2, { frames := 0, cells := 0, slots := 0, locals := 0 })
theorem ok_X6_put : okM mX6_put := ⟨by decide, gt_5 26 rfl rfl, gt_1 14 rfl rfl, by decide, by decide, by decide +kernel⟩
def yX6_at : MethodName := ⟨RX6, "at", "(I)I"⟩
abbrev cX6_at : ByteArray := prog_8_method_5_code
def mX6_at : aM := (yX6_at, cX6_at, 2, (some .int), 1, 1, { frames := 0, cells := 0, slots := 0, locals := 0 })
theorem ok_X6_at : okM mX6_at := ⟨by decide, gt_5 43 rfl rfl, gt_1 14 rfl rfl, by decide, by decide, by decide +kernel⟩
def yX6_faultAs : MethodName := ⟨RX6, "faultAs", "(I)I"⟩
abbrev cX6_faultAs : ByteArray := prog_8_method_6_code
def mX6_faultAs : aM := (yX6_faultAs, cX6_faultAs, 2, (some .int), 1, 1, { frames := 1, cells := 0, slots := 0, locals := 20 })
theorem ok_X6_faultAs : okM mX6_faultAs := ⟨by decide, gt_5 34 rfl rfl, gt_1 14 rfl rfl, by decide, by decide, by decide +kernel⟩
def yX6_wholeSteps : MethodName := ⟨RX6, "wholeSteps", "(II)I"⟩
abbrev cX6_wholeSteps : ByteArray := prog_8_method_7_code
def mX6_wholeSteps : aM := (yX6_wholeSteps, cX6_wholeSteps, 3, (some .int), 1, 2, { frames := 1, cells := 0, slots := 0, locals := 21 })
theorem ok_X6_wholeSteps : okM mX6_wholeSteps := ⟨by decide, gt_5 39 rfl rfl, gt_1 14 rfl rfl, by decide, by decide, by decide +kernel⟩
def yX7_init : MethodName := ⟨RX7, "<init>", "(LLatePrices$Plan;LLatePrices$News;LLatePrices$Ledger;)V"⟩
abbrev cX7_init : ByteArray := prog_9_method_1_code
def mX7_init : aM := (yX7_init, cX7_init, 4, none, 0, 3, { frames := 1, cells := 6, slots := 108, locals := 20 })
theorem ok_X7_init : okM mX7_init := ⟨by decide, gt_2 4 rfl rfl, gt_1 10 rfl rfl, by decide, by decide, by decide +kernel⟩
def yX7_settle : MethodName := ⟨RX7, "settle", "()V"⟩
abbrev cX7_settle : ByteArray := prog_9_method_2_code
def mX7_settle : aM := (yX7_settle, cX7_settle, 2, none, 0, 0, { frames := 4, cells := 0, slots := 0, locals := 99 })
theorem ok_X7_settle : okM mX7_settle := ⟨by decide, gt_3 230 rfl rfl, gt_1 10 rfl rfl, by decide, by decide, by decide +kernel⟩
def yX7_putInOrder : MethodName := ⟨RX7, "putInOrder", "()V"⟩
abbrev cX7_putInOrder : ByteArray := prog_9_method_3_code
def mX7_putInOrder : aM := (yX7_putInOrder, cX7_putInOrder, 3, none, 0, 0, { frames := 2, cells := 0, slots := 0, locals := 48 })
theorem ok_X7_putInOrder : okM mX7_putInOrder := ⟨by decide, gt_3 236 rfl rfl, gt_1 10 rfl rfl, by decide, by decide, by decide +kernel⟩
def yX7_isAhead : MethodName := ⟨RX7, "isAhead", "(II)Z"⟩
abbrev cX7_isAhead : ByteArray := prog_9_method_4_code
def mX7_isAhead : aM := (yX7_isAhead, cX7_isAhead, 7, (some .boolean), 1, 2, { frames := 1, cells := 0, slots := 0, locals := 22 })
theorem ok_X7_isAhead : okM mX7_isAhead := ⟨by decide, gt_4 0 rfl rfl, gt_1 10 rfl rfl, by decide, by decide, by decide +kernel⟩
def yX7_strike : MethodName := ⟨RX7, "strike", "(I)V"⟩
abbrev cX7_strike : ByteArray := prog_9_method_5_code
def mX7_strike : aM := (yX7_strike, cX7_strike, 4, none, 0, 1, { frames := 2, cells := 0, slots := 0, locals := 44 })
theorem ok_X7_strike : okM mX7_strike := ⟨by decide, gt_4 4 rfl rfl, gt_1 10 rfl rfl, by decide, by decide, by decide +kernel⟩
def yX7_isStanding : MethodName := ⟨RX7, "isStanding", "(II)Z"⟩
abbrev cX7_isStanding : ByteArray := prog_9_method_6_code
def mX7_isStanding : aM := (yX7_isStanding, cX7_isStanding, 3, (some .boolean), 1, 2, { frames := 1, cells := 0, slots := 0, locals := 22 })
theorem ok_X7_isStanding : okM mX7_isStanding := ⟨by decide, gt_4 8 rfl rfl, gt_1 10 rfl rfl, by decide, by decide, by decide +kernel⟩
def yX7_newsOf : MethodName := ⟨RX7, "newsOf", "(II)I"⟩
abbrev cX7_newsOf : ByteArray := prog_9_method_7_code
def mX7_newsOf : aM := (yX7_newsOf, cX7_newsOf, 4, (some .int), 1, 2, { frames := 4, cells := 0, slots := 0, locals := 98 })
theorem ok_X7_newsOf : okM mX7_newsOf := ⟨by decide, gt_4 38 rfl rfl, gt_1 10 rfl rfl, by decide, by decide, by decide +kernel⟩
def yX7_payment : MethodName := ⟨RX7, "payment", "(II)I"⟩
abbrev cX7_payment : ByteArray := prog_9_method_8_code
def mX7_payment : aM := (yX7_payment, cX7_payment, 6, (some .int), 1, 2, { frames := 1, cells := 0, slots := 0, locals := 22 })
theorem ok_X7_payment : okM mX7_payment := ⟨by decide, gt_4 60 rfl rfl, gt_1 10 rfl rfl, by decide, by decide, by decide +kernel⟩
def yX7_debt : MethodName := ⟨RX7, "debt", "(II)I"⟩
abbrev cX7_debt : ByteArray := prog_9_method_9_code
def mX7_debt : aM := (yX7_debt, cX7_debt, 5, (some .int), 1, 2, { frames := 2, cells := 0, slots := 0, locals := 47 })
theorem ok_X7_debt : okM mX7_debt := ⟨by decide, gt_4 64 rfl rfl, gt_1 10 rfl rfl, by decide, by decide, by decide +kernel⟩
def yX7_debtKnown : MethodName := ⟨RX7, "debtKnown", "(III)I"⟩
abbrev cX7_debtKnown : ByteArray := prog_9_method_10_code
def mX7_debtKnown : aM := (yX7_debtKnown, cX7_debtKnown, 6, (some .int), 1, 3, { frames := 5, cells := 0, slots := 0, locals := 121 })
theorem ok_X7_debtKnown : okM mX7_debtKnown := ⟨by decide, gt_4 119 rfl rfl, gt_1 10 rfl rfl, by decide, by decide, by decide +kernel⟩
def yX7_debtAtMost : MethodName := ⟨RX7, "debtAtMost", "(II)I"⟩
abbrev cX7_debtAtMost : ByteArray := prog_9_method_11_code
def mX7_debtAtMost : aM := (yX7_debtAtMost, cX7_debtAtMost, 5, (some .int), 1, 2, { frames := 3, cells := 0, slots := 0, locals := 71 })
theorem ok_X7_debtAtMost : okM mX7_debtAtMost := ⟨by decide, gt_4 124 rfl rfl, gt_1 10 rfl rfl, by decide, by decide, by decide +kernel⟩
def yX7_unitsLeft : MethodName := ⟨RX7, "unitsLeft", "(II)I"⟩
abbrev cX7_unitsLeft : ByteArray := prog_9_method_12_code
def mX7_unitsLeft : aM := (yX7_unitsLeft, cX7_unitsLeft, 5, (some .int), 1, 2, { frames := 1, cells := 0, slots := 0, locals := 22 })
theorem ok_X7_unitsLeft : okM mX7_unitsLeft := ⟨by decide, gt_4 128 rfl rfl, gt_1 10 rfl rfl, by decide, by decide, by decide +kernel⟩
def yX7_peakMinute : MethodName := ⟨RX7, "peakMinute", "(I)I"⟩
abbrev cX7_peakMinute : ByteArray := prog_9_method_13_code
def mX7_peakMinute : aM := (yX7_peakMinute, cX7_peakMinute, 7, (some .int), 1, 1, { frames := 3, cells := 0, slots := 0, locals := 71 })
theorem ok_X7_peakMinute : okM mX7_peakMinute := ⟨by decide, gt_4 140 rfl rfl, gt_1 10 rfl rfl, by decide, by decide, by decide +kernel⟩
def yX7_fewestUndone : MethodName := ⟨RX7, "fewestUndone", "(I)I"⟩
abbrev cX7_fewestUndone : ByteArray := prog_9_method_14_code
def mX7_fewestUndone : aM := (yX7_fewestUndone, cX7_fewestUndone, 3, (some .int), 1, 1, { frames := 3, cells := 0, slots := 0, locals := 71 })
theorem ok_X7_fewestUndone : okM mX7_fewestUndone := ⟨by decide, gt_4 56 rfl rfl, gt_1 10 rfl rfl, by decide, by decide, by decide +kernel⟩
def yX7_leastUndone : MethodName := ⟨RX7, "leastUndone", "(I)I"⟩
abbrev cX7_leastUndone : ByteArray := prog_9_method_15_code
def mX7_leastUndone : aM := (yX7_leastUndone, cX7_leastUndone, 6, (some .int), 1, 1, { frames := 1, cells := 0, slots := 0, locals := 27 })
theorem ok_X7_leastUndone : okM mX7_leastUndone := ⟨by decide, gt_4 72 rfl rfl, gt_1 10 rfl rfl, by decide, by decide, by decide +kernel⟩
def yX7_sumOfDearest : MethodName := ⟨RX7, "sumOfDearest", "(II)I"⟩
abbrev cX7_sumOfDearest : ByteArray := prog_9_method_16_code
def mX7_sumOfDearest : aM := (yX7_sumOfDearest, cX7_sumOfDearest, 8, (some .int), 1, 2, { frames := 0, cells := 0, slots := 0, locals := 0 })
theorem ok_X7_sumOfDearest : okM mX7_sumOfDearest := ⟨by decide, gt_4 68 rfl rfl, gt_1 10 rfl rfl, by decide, by decide, by decide +kernel⟩
def yX8_init : MethodName := ⟨RX8, "<init>", "()V"⟩
abbrev cX8_init : ByteArray := prog_10_method_1_code
def mX8_init : aM := (yX8_init, cX8_init, 1, none, 0, 0, { frames := 1, cells := 1, slots := 320, locals := 20 })
theorem ok_X8_init : okM mX8_init := ⟨by decide, gt_1 33 rfl rfl, gt_1 2 rfl rfl, by decide, by decide, by decide +kernel⟩
def yX8_push : MethodName := ⟨RX8, "push", "(J)Z"⟩
abbrev cX8_push : ByteArray := prog_10_method_2_code
def mX8_push : aM := (yX8_push, cX8_push, 4, (some .boolean), 1, 1, { frames := 0, cells := 0, slots := 0, locals := 0 })
theorem ok_X8_push : okM mX8_push := ⟨by decide, gt_2 179 rfl rfl, gt_1 2 rfl rfl, by decide, by decide, by decide +kernel⟩
def yX8_byteAt : MethodName := ⟨RX8, "byteAt", "(I)I"⟩
abbrev cX8_byteAt : ByteArray := prog_10_method_3_code
def mX8_byteAt : aM := (yX8_byteAt, cX8_byteAt, 2, (some .int), 1, 1, { frames := 0, cells := 0, slots := 0, locals := 0 })
theorem ok_X8_byteAt : okM mX8_byteAt := ⟨by decide, gt_2 207 rfl rfl, gt_1 2 rfl rfl, by decide, by decide, by decide +kernel⟩
def yX8_endOfRun : MethodName := ⟨RX8, "endOfRun", "(III)I"⟩
abbrev cX8_endOfRun : ByteArray := prog_10_method_4_code
def mX8_endOfRun : aM := (yX8_endOfRun, cX8_endOfRun, 5, (some .int), 1, 3, { frames := 0, cells := 0, slots := 0, locals := 0 })
theorem ok_X8_endOfRun : okM mX8_endOfRun := ⟨by decide, gt_2 203 rfl rfl, gt_1 2 rfl rfl, by decide, by decide, by decide +kernel⟩
def yX8_advance : MethodName := ⟨RX8, "advance", "()V"⟩
abbrev cX8_advance : ByteArray := prog_10_method_5_code
def mX8_advance : aM := (yX8_advance, cX8_advance, 3, none, 0, 0, { frames := 1, cells := 0, slots := 0, locals := 24 })
theorem ok_X8_advance : okM mX8_advance := ⟨by decide, gt_2 199 rfl rfl, gt_1 2 rfl rfl, by decide, by decide, by decide +kernel⟩
def yX8_isName : MethodName := ⟨RX8, "isName", "(Ljava/lang/String;)Z"⟩
abbrev cX8_isName : ByteArray := prog_10_method_6_code
def mX8_isName : aM := (yX8_isName, cX8_isName, 3, (some .boolean), 1, 1, { frames := 5, cells := 0, slots := 0, locals := 106 })
theorem ok_X8_isName : okM mX8_isName := ⟨by decide, gt_2 224 rfl rfl, gt_1 2 rfl rfl, by decide, by decide, by decide +kernel⟩
def yX9_init : MethodName := ⟨RX9, "<init>", "(LLatePrices$Plan;LLatePrices$News;)V"⟩
abbrev cX9_init : ByteArray := prog_11_method_1_code
def mX9_init : aM := (yX9_init, cX9_init, 3, none, 0, 2, { frames := 1, cells := 1, slots := 5, locals := 20 })
theorem ok_X9_init : okM mX9_init := ⟨by decide, gt_2 80 rfl rfl, gt_1 12 rfl rfl, by decide, by decide, by decide +kernel⟩
def yX9_look : MethodName := ⟨RX9, "look", "(I)V"⟩
abbrev cX9_look : ByteArray := prog_11_method_2_code
def mX9_look : aM := (yX9_look, cX9_look, 5, none, 0, 1, { frames := 3, cells := 0, slots := 0, locals := 75 })
theorem ok_X9_look : okM mX9_look := ⟨by decide, gt_4 148 rfl rfl, gt_1 12 rfl rfl, by decide, by decide, by decide +kernel⟩
def yX9_longestIn : MethodName := ⟨RX9, "longestIn", "(III)I"⟩
abbrev cX9_longestIn : ByteArray := prog_11_method_3_code
def mX9_longestIn : aM := (yX9_longestIn, cX9_longestIn, 8, (some .int), 1, 3, { frames := 5, cells := 0, slots := 0, locals := 126 })
theorem ok_X9_longestIn : okM mX9_longestIn := ⟨by decide, gt_4 163 rfl rfl, gt_1 12 rfl rfl, by decide, by decide, by decide +kernel⟩
def yX9_longestBehind : MethodName := ⟨RX9, "longestBehind", "(IIIII)I"⟩
abbrev cX9_longestBehind : ByteArray := prog_11_method_4_code
def mX9_longestBehind : aM := (yX9_longestBehind, cX9_longestBehind, 9, (some .int), 1, 5, { frames := 4, cells := 0, slots := 0, locals := 98 })
theorem ok_X9_longestBehind : okM mX9_longestBehind := ⟨by decide, gt_4 168 rfl rfl, gt_1 12 rfl rfl, by decide, by decide, by decide +kernel⟩
def yX10_init : MethodName := ⟨RX10, "<init>", "(LLatePrices$Plan;)V"⟩
abbrev cX10_init : ByteArray := prog_12_method_1_code
def mX10_init : aM := (yX10_init, cX10_init, 2, none, 0, 1, { frames := 1, cells := 2, slots := 50, locals := 20 })
theorem ok_X10_init : okM mX10_init := ⟨by decide, gt_2 97 rfl rfl, gt_1 13 rfl rfl, by decide, by decide, by decide +kernel⟩
def yX10_walk : MethodName := ⟨RX10, "walk", "(I)V"⟩
abbrev cX10_walk : ByteArray := prog_12_method_2_code
def mX10_walk : aM := (yX10_walk, cX10_walk, 8, none, 0, 1, { frames := 1, cells := 0, slots := 0, locals := 26 })
theorem ok_X10_walk : okM mX10_walk := ⟨by decide, gt_4 182 rfl rfl, gt_1 13 rfl rfl, by decide, by decide, by decide +kernel⟩
def yX10_power : MethodName := ⟨RX10, "power", "(I)J"⟩
abbrev cX10_power : ByteArray := prog_12_method_3_code
def mX10_power : aM := (yX10_power, cX10_power, 5, (some .long), 2, 1, { frames := 1, cells := 0, slots := 0, locals := 20 })
theorem ok_X10_power : okM mX10_power := ⟨by decide, gt_4 190 rfl rfl, gt_1 13 rfl rfl, by decide, by decide, by decide +kernel⟩
def yX10_lossSum : MethodName := ⟨RX10, "lossSum", "(II)J"⟩
abbrev cX10_lossSum : ByteArray := prog_12_method_4_code
def mX10_lossSum : aM := (yX10_lossSum, cX10_lossSum, 6, (some .long), 2, 2, { frames := 2, cells := 0, slots := 0, locals := 53 })
theorem ok_X10_lossSum : okM mX10_lossSum := ⟨by decide, gt_4 208 rfl rfl, gt_1 13 rfl rfl, by decide, by decide, by decide +kernel⟩
def yX10_inLowestTerms : MethodName := ⟨RX10, "inLowestTerms", "(JJI)J"⟩
abbrev cX10_inLowestTerms : ByteArray := prog_12_method_5_code
def mX10_inLowestTerms : aM := (yX10_inLowestTerms, cX10_inLowestTerms, 12, (some .long), 2, 3, { frames := 1, cells := 0, slots := 0, locals := 23 })
theorem ok_X10_inLowestTerms : okM mX10_inLowestTerms := ⟨by decide, gt_4 194 rfl rfl, gt_1 13 rfl rfl, by decide, by decide, by decide +kernel⟩
def yX11_init : MethodName := ⟨RX11, "<init>", "()V"⟩
abbrev cX11_init : ByteArray := prog_1_method_1_code
def mX11_init : aM := (yX11_init, cX11_init, 2, none, 0, 0, { frames := 3, cells := 67, slots := 2039, locals := 64 })
theorem ok_X11_init : okM mX11_init := ⟨by decide, gt_1 25 rfl rfl, gt_1 1 rfl rfl, by decide, by decide, by decide +kernel⟩
def yX11_feed : MethodName := ⟨RX11, "feed", "(J)I"⟩
abbrev cX11_feed : ByteArray := prog_1_method_2_code
def mX11_feed : aM := (yX11_feed, cX11_feed, 3, (some .int), 1, 1, { frames := 1, cells := 0, slots := 0, locals := 23 })
theorem ok_X11_feed : okM mX11_feed := ⟨by decide, gt_2 175 rfl rfl, gt_1 1 rfl rfl, by decide, by decide, by decide +kernel⟩
def yX11_end : MethodName := ⟨RX11, "end", "(I)I"⟩
abbrev cX11_end : ByteArray := prog_1_method_3_code
def mX11_end : aM := (yX11_end, cX11_end, 3, (some .int), 1, 1, { frames := 1, cells := 0, slots := 0, locals := 22 })
theorem ok_X11_end : okM mX11_end := ⟨by decide, gt_2 183 rfl rfl, gt_1 1 rfl rfl, by decide, by decide, by decide +kernel⟩
def yX11_system : MethodName := ⟨RX11, "system", "()I"⟩
abbrev cX11_system : ByteArray := prog_1_method_4_code
def mX11_system : aM := (yX11_system, cX11_system, 3, (some .int), 1, 0, { frames := 9, cells := 0, slots := 0, locals := 189 })
theorem ok_X11_system : okM mX11_system := ⟨by decide, gt_2 190 rfl rfl, gt_1 1 rfl rfl, by decide, by decide, by decide +kernel⟩
def yX11_fault : MethodName := ⟨RX11, "fault", "()I"⟩
abbrev cX11_fault : ByteArray := prog_1_method_5_code
def mX11_fault : aM := (yX11_fault, cX11_fault, 1, (some .int), 1, 0, { frames := 0, cells := 0, slots := 0, locals := 0 })
theorem ok_X11_fault : okM mX11_fault := ⟨by decide, gt_3 90 rfl rfl, gt_1 1 rfl rfl, by decide, by decide, by decide +kernel⟩
def yX11_told : MethodName := ⟨RX11, "told", "(I)I"⟩
abbrev cX11_told : ByteArray := prog_1_method_6_code
def mX11_told : aM := (yX11_told, cX11_told, 2, (some .int), 1, 1, { frames := 0, cells := 0, slots := 0, locals := 0 })
theorem ok_X11_told : okM mX11_told := ⟨by decide, gt_3 94 rfl rfl, gt_1 1 rfl rfl, by decide, by decide, by decide +kernel⟩
def yX11_way : MethodName := ⟨RX11, "way", "(II)I"⟩
abbrev cX11_way : ByteArray := prog_1_method_7_code
def mX11_way : aM := (yX11_way, cX11_way, 4, (some .int), 1, 2, { frames := 2, cells := 0, slots := 0, locals := 43 })
theorem ok_X11_way : okM mX11_way := ⟨by decide, gt_3 98 rfl rfl, gt_1 1 rfl rfl, by decide, by decide, by decide +kernel⟩
def yX11_comes : MethodName := ⟨RX11, "comes", "(III)I"⟩
abbrev cX11_comes : ByteArray := prog_1_method_8_code
def mX11_comes : aM := (yX11_comes, cX11_comes, 4, (some .int), 1, 3, { frames := 4, cells := 0, slots := 0, locals := 98 })
theorem ok_X11_comes : okM mX11_comes := ⟨by decide, gt_3 107 rfl rfl, gt_1 1 rfl rfl, by decide, by decide, by decide +kernel⟩
def yX11_knows : MethodName := ⟨RX11, "knows", "(IIII)I"⟩
abbrev cX11_knows : ByteArray := prog_1_method_9_code
def mX11_knows : aM := (yX11_knows, cX11_knows, 6, (some .int), 1, 4, { frames := 4, cells := 0, slots := 0, locals := 98 })
theorem ok_X11_knows : okM mX11_knows := ⟨by decide, gt_3 142 rfl rfl, gt_1 1 rfl rfl, by decide, by decide, by decide +kernel⟩
def yX11_step : MethodName := ⟨RX11, "step", "(III)I"⟩
abbrev cX11_step : ByteArray := prog_1_method_10_code
def mX11_step : aM := (yX11_step, cX11_step, 5, (some .int), 1, 3, { frames := 2, cells := 0, slots := 0, locals := 43 })
theorem ok_X11_step : okM mX11_step := ⟨by decide, gt_3 175 rfl rfl, gt_1 1 rfl rfl, by decide, by decide, by decide +kernel⟩
def yX11_price : MethodName := ⟨RX11, "price", "(II)I"⟩
abbrev cX11_price : ByteArray := prog_1_method_11_code
def mX11_price : aM := (yX11_price, cX11_price, 3, (some .int), 1, 2, { frames := 2, cells := 0, slots := 0, locals := 48 })
theorem ok_X11_price : okM mX11_price := ⟨by decide, gt_3 187 rfl rfl, gt_1 1 rfl rfl, by decide, by decide, by decide +kernel⟩
def yX11_dearest : MethodName := ⟨RX11, "dearest", "(III)I"⟩
abbrev cX11_dearest : ByteArray := prog_1_method_12_code
def mX11_dearest : aM := (yX11_dearest, cX11_dearest, 9, (some .int), 1, 3, { frames := 3, cells := 0, slots := 0, locals := 75 })
theorem ok_X11_dearest : okM mX11_dearest := ⟨by decide, gt_3 191 rfl rfl, gt_1 1 rfl rfl, by decide, by decide, by decide +kernel⟩
def yX11_call : MethodName := ⟨RX11, "call", "(IIIIIII)I"⟩
abbrev cX11_call : ByteArray := prog_1_method_13_code
def mX11_call : aM := (yX11_call, cX11_call, 11, (some .int), 1, 7, { frames := 2, cells := 0, slots := 0, locals := 43 })
theorem ok_X11_call : okM mX11_call := ⟨by decide, gt_3 200 rfl rfl, gt_1 1 rfl rfl, by decide, by decide, by decide +kernel⟩
def yX11_takeBack : MethodName := ⟨RX11, "takeBack", "(II)I"⟩
abbrev cX11_takeBack : ByteArray := prog_1_method_14_code
def mX11_takeBack : aM := (yX11_takeBack, cX11_takeBack, 4, (some .int), 1, 2, { frames := 2, cells := 0, slots := 0, locals := 43 })
theorem ok_X11_takeBack : okM mX11_takeBack := ⟨by decide, gt_3 204 rfl rfl, gt_1 1 rfl rfl, by decide, by decide, by decide +kernel⟩
def yX11_of : MethodName := ⟨RX11, "of", "(II)I"⟩
abbrev cX11_of : ByteArray := prog_1_method_15_code
def mX11_of : aM := (yX11_of, cX11_of, 3, (some .int), 1, 2, { frames := 5, cells := 0, slots := 0, locals := 120 })
theorem ok_X11_of : okM mX11_of := ⟨by decide, gt_3 213 rfl rfl, gt_1 1 rfl rfl, by decide, by decide, by decide +kernel⟩
def yX11_stands : MethodName := ⟨RX11, "stands", "(II)I"⟩
abbrev cX11_stands : ByteArray := prog_1_method_16_code
def mX11_stands : aM := (yX11_stands, cX11_stands, 3, (some .int), 1, 2, { frames := 5, cells := 0, slots := 0, locals := 121 })
theorem ok_X11_stands : okM mX11_stands := ⟨by decide, gt_4 13 rfl rfl, gt_1 1 rfl rfl, by decide, by decide, by decide +kernel⟩
def yX11_seen : MethodName := ⟨RX11, "seen", "(III)I"⟩
abbrev cX11_seen : ByteArray := prog_1_method_17_code
def mX11_seen : aM := (yX11_seen, cX11_seen, 5, (some .int), 1, 3, { frames := 4, cells := 0, slots := 0, locals := 98 })
theorem ok_X11_seen : okM mX11_seen := ⟨by decide, gt_4 22 rfl rfl, gt_1 1 rfl rfl, by decide, by decide, by decide +kernel⟩
def yX11_deal : MethodName := ⟨RX11, "deal", "(IIII)I"⟩
abbrev cX11_deal : ByteArray := prog_1_method_18_code
def mX11_deal : aM := (yX11_deal, cX11_deal, 8, (some .int), 1, 4, { frames := 4, cells := 0, slots := 0, locals := 98 })
theorem ok_X11_deal : okM mX11_deal := ⟨by decide, gt_4 26 rfl rfl, gt_1 1 rfl rfl, by decide, by decide, by decide +kernel⟩
def yX11_sent : MethodName := ⟨RX11, "sent", "(II)I"⟩
abbrev cX11_sent : ByteArray := prog_1_method_19_code
def mX11_sent : aM := (yX11_sent, cX11_sent, 4, (some .int), 1, 2, { frames := 5, cells := 0, slots := 0, locals := 121 })
theorem ok_X11_sent : okM mX11_sent := ⟨by decide, gt_4 30 rfl rfl, gt_1 1 rfl rfl, by decide, by decide, by decide +kernel⟩
def yX11_empty : MethodName := ⟨RX11, "empty", "(I)I"⟩
abbrev cX11_empty : ByteArray := prog_1_method_20_code
def mX11_empty : aM := (yX11_empty, cX11_empty, 4, (some .int), 1, 1, { frames := 6, cells := 0, slots := 0, locals := 146 })
theorem ok_X11_empty : okM mX11_empty := ⟨by decide, gt_4 43 rfl rfl, gt_1 1 rfl rfl, by decide, by decide, by decide +kernel⟩
def yX11_undo : MethodName := ⟨RX11, "undo", "(II)I"⟩
abbrev cX11_undo : ByteArray := prog_1_method_21_code
def mX11_undo : aM := (yX11_undo, cX11_undo, 4, (some .int), 1, 2, { frames := 5, cells := 0, slots := 0, locals := 120 })
theorem ok_X11_undo : okM mX11_undo := ⟨by decide, gt_4 52 rfl rfl, gt_1 1 rfl rfl, by decide, by decide, by decide +kernel⟩
def yX11_gain : MethodName := ⟨RX11, "gain", "(IIZI)I"⟩
abbrev cX11_gain : ByteArray := prog_1_method_22_code
def mX11_gain : aM := (yX11_gain, cX11_gain, 5, (some .int), 1, 4, { frames := 6, cells := 0, slots := 0, locals := 147 })
theorem ok_X11_gain : okM mX11_gain := ⟨by decide, gt_4 76 rfl rfl, gt_1 1 rfl rfl, by decide, by decide, by decide +kernel⟩
def yX11_chance : MethodName := ⟨RX11, "chance", "(IIZ)I"⟩
abbrev cX11_chance : ByteArray := prog_1_method_23_code
def mX11_chance : aM := (yX11_chance, cX11_chance, 4, (some .int), 1, 3, { frames := 6, cells := 0, slots := 0, locals := 147 })
theorem ok_X11_chance : okM mX11_chance := ⟨by decide, gt_4 104 rfl rfl, gt_1 1 rfl rfl, by decide, by decide, by decide +kernel⟩
def yX11_owes : MethodName := ⟨RX11, "owes", "(IIII)I"⟩
abbrev cX11_owes : ByteArray := prog_1_method_24_code
def mX11_owes : aM := (yX11_owes, cX11_owes, 5, (some .int), 1, 4, { frames := 6, cells := 0, slots := 0, locals := 146 })
theorem ok_X11_owes : okM mX11_owes := ⟨by decide, gt_4 113 rfl rfl, gt_1 1 rfl rfl, by decide, by decide, by decide +kernel⟩
def yX11_over : MethodName := ⟨RX11, "over", "(I)I"⟩
abbrev cX11_over : ByteArray := prog_1_method_25_code
def mX11_over : aM := (yX11_over, cX11_over, 4, (some .int), 1, 1, { frames := 5, cells := 0, slots := 0, locals := 120 })
theorem ok_X11_over : okM mX11_over := ⟨by decide, gt_4 132 rfl rfl, gt_1 1 rfl rfl, by decide, by decide, by decide +kernel⟩
def yX11_peak : MethodName := ⟨RX11, "peak", "(II)I"⟩
abbrev cX11_peak : ByteArray := prog_1_method_26_code
def mX11_peak : aM := (yX11_peak, cX11_peak, 4, (some .int), 1, 2, { frames := 5, cells := 0, slots := 0, locals := 120 })
theorem ok_X11_peak : okM mX11_peak := ⟨by decide, gt_4 136 rfl rfl, gt_1 1 rfl rfl, by decide, by decide, by decide +kernel⟩
def yX11_waits : MethodName := ⟨RX11, "waits", "(II)I"⟩
abbrev cX11_waits : ByteArray := prog_1_method_27_code
def mX11_waits : aM := (yX11_waits, cX11_waits, 3, (some .int), 1, 2, { frames := 4, cells := 0, slots := 0, locals := 99 })
theorem ok_X11_waits : okM mX11_waits := ⟨by decide, gt_4 144 rfl rfl, gt_1 1 rfl rfl, by decide, by decide, by decide +kernel⟩
def yX11_book : MethodName := ⟨RX11, "book", "(II)I"⟩
abbrev cX11_book : ByteArray := prog_1_method_28_code
def mX11_book : aM := (yX11_book, cX11_book, 6, (some .int), 1, 2, { frames := 4, cells := 0, slots := 0, locals := 99 })
theorem ok_X11_book : okM mX11_book := ⟨by decide, gt_4 155 rfl rfl, gt_1 1 rfl rfl, by decide, by decide, by decide +kernel⟩
def yX11_enough : MethodName := ⟨RX11, "enough", "(III)I"⟩
abbrev cX11_enough : ByteArray := prog_1_method_29_code
def mX11_enough : aM := (yX11_enough, cX11_enough, 4, (some .int), 1, 3, { frames := 6, cells := 0, slots := 0, locals := 153 })
theorem ok_X11_enough : okM mX11_enough := ⟨by decide, gt_4 159 rfl rfl, gt_1 1 rfl rfl, by decide, by decide, by decide +kernel⟩
def yX11_odds : MethodName := ⟨RX11, "odds", "(III)J"⟩
abbrev cX11_odds : ByteArray := prog_1_method_30_code
def mX11_odds : aM := (yX11_odds, cX11_odds, 4, (some .long), 2, 3, { frames := 2, cells := 0, slots := 0, locals := 54 })
theorem ok_X11_odds : okM mX11_odds := ⟨by decide, gt_4 174 rfl rfl, gt_1 1 rfl rfl, by decide, by decide, by decide +kernel⟩
def yX11_loss : MethodName := ⟨RX11, "loss", "(III)J"⟩
abbrev cX11_loss : ByteArray := prog_1_method_31_code
def mX11_loss : aM := (yX11_loss, cX11_loss, 4, (some .long), 2, 3, { frames := 3, cells := 0, slots := 0, locals := 78 })
theorem ok_X11_loss : okM mX11_loss := ⟨by decide, gt_4 204 rfl rfl, gt_1 1 rfl rfl, by decide, by decide, by decide +kernel⟩
def yX11_wide : MethodName := ⟨RX11, "wide", "(III)I"⟩
abbrev cX11_wide : ByteArray := prog_1_method_32_code
def mX11_wide : aM := (yX11_wide, cX11_wide, 5, (some .int), 1, 3, { frames := 3, cells := 0, slots := 0, locals := 78 })
theorem ok_X11_wide : okM mX11_wide := ⟨by decide, gt_4 215 rfl rfl, gt_1 1 rfl rfl, by decide, by decide, by decide +kernel⟩
def yX11_near : MethodName := ⟨RX11, "near", "(IIII)J"⟩
abbrev cX11_near : ByteArray := prog_1_method_33_code
def mX11_near : aM := (yX11_near, cX11_near, 7, (some .long), 2, 4, { frames := 3, cells := 0, slots := 0, locals := 78 })
theorem ok_X11_near : okM mX11_near := ⟨by decide, gt_4 219 rfl rfl, gt_1 1 rfl rfl, by decide, by decide, by decide +kernel⟩
def yX11_keep : MethodName := ⟨RX11, "keep", "(I)I"⟩
abbrev cX11_keep : ByteArray := prog_1_method_34_code
def mX11_keep : aM := (yX11_keep, cX11_keep, 3, (some .int), 1, 1, { frames := 3, cells := 0, slots := 0, locals := 68 })
theorem ok_X11_keep : okM mX11_keep := ⟨by decide, gt_4 223 rfl rfl, gt_1 1 rfl rfl, by decide, by decide, by decide +kernel⟩
def yX11_back : MethodName := ⟨RX11, "back", "(I)I"⟩
abbrev cX11_back : ByteArray := prog_1_method_35_code
def mX11_back : aM := (yX11_back, cX11_back, 2, (some .int), 1, 1, { frames := 3, cells := 0, slots := 0, locals := 68 })
theorem ok_X11_back : okM mX11_back := ⟨by decide, gt_4 237 rfl rfl, gt_1 1 rfl rfl, by decide, by decide, by decide +kernel⟩
def yX11_sheet : MethodName := ⟨RX11, "sheet", "(III)I"⟩
abbrev cX11_sheet : ByteArray := prog_1_method_36_code
def mX11_sheet : aM := (yX11_sheet, cX11_sheet, 4, (some .int), 1, 3, { frames := 2, cells := 0, slots := 0, locals := 45 })
theorem ok_X11_sheet : okM mX11_sheet := ⟨by decide, gt_5 1 rfl rfl, gt_1 1 rfl rfl, by decide, by decide, by decide +kernel⟩
def yX11_lay : MethodName := ⟨RX11, "lay", "(III)I"⟩
abbrev cX11_lay : ByteArray := prog_1_method_37_code
def mX11_lay : aM := (yX11_lay, cX11_lay, 4, (some .int), 1, 3, { frames := 2, cells := 0, slots := 0, locals := 42 })
theorem ok_X11_lay : okM mX11_lay := ⟨by decide, gt_5 18 rfl rfl, gt_1 1 rfl rfl, by decide, by decide, by decide +kernel⟩
def yX11_read : MethodName := ⟨RX11, "read", "(IIII)I"⟩
abbrev cX11_read : ByteArray := prog_1_method_38_code
def mX11_read : aM := (yX11_read, cX11_read, 11, (some .int), 1, 4, { frames := 3, cells := 0, slots := 0, locals := 67 })
theorem ok_X11_read : okM mX11_read := ⟨by decide, gt_5 30 rfl rfl, gt_1 1 rfl rfl, by decide, by decide, by decide +kernel⟩
def yX11_torn : MethodName := ⟨RX11, "torn", "()I"⟩
abbrev cX11_torn : ByteArray := prog_1_method_39_code
def mX11_torn : aM := (yX11_torn, cX11_torn, 1, (some .int), 1, 0, { frames := 0, cells := 0, slots := 0, locals := 0 })
theorem ok_X11_torn : okM mX11_torn := ⟨by decide, gt_5 48 rfl rfl, gt_1 1 rfl rfl, by decide, by decide, by decide +kernel⟩
def yX11_count : MethodName := ⟨RX11, "count", "(I)I"⟩
abbrev cX11_count : ByteArray := prog_1_method_40_code
def mX11_count : aM := (yX11_count, cX11_count, 2, (some .int), 1, 1, { frames := 1, cells := 0, slots := 0, locals := 20 })
theorem ok_X11_count : okM mX11_count := ⟨by decide, gt_5 52 rfl rfl, gt_1 1 rfl rfl, by decide, by decide, by decide +kernel⟩
def yX11_within : MethodName := ⟨RX11, "within", "(III)Z"⟩
abbrev cX11_within : ByteArray := prog_1_method_41_code
def mX11_within : aM := (yX11_within, cX11_within, 3, (some .boolean), 1, 3, { frames := 0, cells := 0, slots := 0, locals := 0 })
theorem ok_X11_within : okM mX11_within := ⟨by decide, gt_2 186 rfl rfl, gt_1 1 rfl rfl, by decide, by decide, by decide +kernel⟩
def yX11_orNone : MethodName := ⟨RX11, "orNone", "(I)I"⟩
abbrev cX11_orNone : ByteArray := prog_1_method_42_code
def mX11_orNone : aM := (yX11_orNone, cX11_orNone, 1, (some .int), 1, 1, { frames := 0, cells := 0, slots := 0, locals := 0 })
theorem ok_X11_orNone : okM mX11_orNone := ⟨by decide, gt_3 138 rfl rfl, gt_1 1 rfl rfl, by decide, by decide, by decide +kernel⟩
def yX11_isMinute : MethodName := ⟨RX11, "isMinute", "(I)Z"⟩
abbrev cX11_isMinute : ByteArray := prog_1_method_43_code
def mX11_isMinute : aM := (yX11_isMinute, cX11_isMinute, 1, (some .boolean), 1, 1, { frames := 1, cells := 0, slots := 0, locals := 22 })
theorem ok_X11_isMinute : okM mX11_isMinute := ⟨by decide, gt_3 110 rfl rfl, gt_1 1 rfl rfl, by decide, by decide, by decide +kernel⟩
def yX11_isAge : MethodName := ⟨RX11, "isAge", "(I)Z"⟩
abbrev cX11_isAge : ByteArray := prog_1_method_44_code
def mX11_isAge : aM := (yX11_isAge, cX11_isAge, 1, (some .boolean), 1, 1, { frames := 1, cells := 0, slots := 0, locals := 22 })
theorem ok_X11_isAge : okM mX11_isAge := ⟨by decide, gt_4 177 rfl rfl, gt_1 1 rfl rfl, by decide, by decide, by decide +kernel⟩
def yX11_isSheet : MethodName := ⟨RX11, "isSheet", "(I)Z"⟩
abbrev cX11_isSheet : ByteArray := prog_1_method_45_code
def mX11_isSheet : aM := (yX11_isSheet, cX11_isSheet, 1, (some .boolean), 1, 1, { frames := 1, cells := 0, slots := 0, locals := 22 })
theorem ok_X11_isSheet : okM mX11_isSheet := ⟨by decide, gt_5 4 rfl rfl, gt_1 1 rfl rfl, by decide, by decide, by decide +kernel⟩
def yX11_isLane : MethodName := ⟨RX11, "isLane", "(I)Z"⟩
abbrev cX11_isLane : ByteArray := prog_1_method_46_code
def mX11_isLane : aM := (yX11_isLane, cX11_isLane, 1, (some .boolean), 1, 1, { frames := 1, cells := 0, slots := 0, locals := 22 })
theorem ok_X11_isLane : okM mX11_isLane := ⟨by decide, gt_5 7 rfl rfl, gt_1 1 rfl rfl, by decide, by decide, by decide +kernel⟩
def yX11_isPlace : MethodName := ⟨RX11, "isPlace", "(I)Z"⟩
abbrev cX11_isPlace : ByteArray := prog_1_method_47_code
def mX11_isPlace : aM := (yX11_isPlace, cX11_isPlace, 2, (some .boolean), 1, 1, { frames := 1, cells := 0, slots := 0, locals := 22 })
theorem ok_X11_isPlace : okM mX11_isPlace := ⟨by decide, gt_3 102 rfl rfl, gt_1 1 rfl rfl, by decide, by decide, by decide +kernel⟩
def yX11_isCall : MethodName := ⟨RX11, "isCall", "(I)Z"⟩
abbrev cX11_isCall : ByteArray := prog_1_method_48_code
def mX11_isCall : aM := (yX11_isCall, cX11_isCall, 2, (some .boolean), 1, 1, { frames := 1, cells := 0, slots := 0, locals := 22 })
theorem ok_X11_isCall : okM mX11_isCall := ⟨by decide, gt_3 208 rfl rfl, gt_1 1 rfl rfl, by decide, by decide, by decide +kernel⟩
def yX11_isDeal : MethodName := ⟨RX11, "isDeal", "(I)Z"⟩
abbrev cX11_isDeal : ByteArray := prog_1_method_49_code
def mX11_isDeal : aM := (yX11_isDeal, cX11_isDeal, 2, (some .boolean), 1, 1, { frames := 1, cells := 0, slots := 0, locals := 22 })
theorem ok_X11_isDeal : okM mX11_isDeal := ⟨by decide, gt_4 34 rfl rfl, gt_1 1 rfl rfl, by decide, by decide, by decide +kernel⟩
def yX11_isEmptyAs : MethodName := ⟨RX11, "isEmptyAs", "(II)Z"⟩
abbrev cX11_isEmptyAs : ByteArray := prog_1_method_50_code
def mX11_isEmptyAs : aM := (yX11_isEmptyAs, cX11_isEmptyAs, 5, (some .boolean), 1, 2, { frames := 5, cells := 0, slots := 0, locals := 122 })
theorem ok_X11_isEmptyAs : okM mX11_isEmptyAs := ⟨by decide, gt_4 47 rfl rfl, gt_1 1 rfl rfl, by decide, by decide, by decide +kernel⟩
def yX12_init : MethodName := ⟨RX12, "<init>", "()V"⟩
abbrev cX12_init : ByteArray := prog_14_method_1_code
def mX12_init : aM := (yX12_init, cX12_init, 1, none, 0, 0, { frames := 1, cells := 25, slots := 1783, locals := 20 })
theorem ok_X12_init : okM mX12_init := ⟨by decide, gt_5 57 rfl rfl, gt_1 15 rfl rfl, by decide, by decide, by decide +kernel⟩
def yX12_in : MethodName := ⟨RX12, "in", "(JJJ)Z"⟩
abbrev cX12_in : ByteArray := prog_14_method_3_code
def mX12_in : aM := (yX12_in, cX12_in, 6, (some .boolean), 1, 3, { frames := 0, cells := 0, slots := 0, locals := 0 })
theorem ok_X12_in : okM mX12_in := ⟨by decide, gt_5 185 rfl rfl, gt_1 15 rfl rfl, by decide, by decide, by decide +kernel⟩
def yX12_feed : MethodName := ⟨RX12, "feed", "(J)I"⟩
abbrev cX12_feed : ByteArray := prog_14_method_4_code
def mX12_feed : aM := (yX12_feed, cX12_feed, 4, (some .int), 1, 1, { frames := 0, cells := 0, slots := 0, locals := 0 })
theorem ok_X12_feed : okM mX12_feed := ⟨by decide, gt_5 178 rfl rfl, gt_1 15 rfl rfl, by decide, by decide, by decide +kernel⟩
def yX12_end : MethodName := ⟨RX12, "end", "(I)I"⟩
abbrev cX12_end : ByteArray := prog_14_method_5_code
def mX12_end : aM := (yX12_end, cX12_end, 3, (some .int), 1, 1, { frames := 1, cells := 0, slots := 0, locals := 25 })
theorem ok_X12_end : okM mX12_end := ⟨by decide, gt_5 182 rfl rfl, gt_1 15 rfl rfl, by decide, by decide, by decide +kernel⟩
def yX12_byteAt : MethodName := ⟨RX12, "byteAt", "(I)I"⟩
abbrev cX12_byteAt : ByteArray := prog_14_method_6_code
def mX12_byteAt : aM := (yX12_byteAt, cX12_byteAt, 2, (some .int), 1, 1, { frames := 0, cells := 0, slots := 0, locals := 0 })
theorem ok_X12_byteAt : okM mX12_byteAt := ⟨by decide, gt_5 197 rfl rfl, gt_1 15 rfl rfl, by decide, by decide, by decide +kernel⟩
def yX12_fails : MethodName := ⟨RX12, "fails", "(I)V"⟩
abbrev cX12_fails : ByteArray := prog_14_method_7_code
def mX12_fails : aM := (yX12_fails, cX12_fails, 2, none, 0, 1, { frames := 0, cells := 0, slots := 0, locals := 0 })
theorem ok_X12_fails : okM mX12_fails := ⟨by decide, gt_5 205 rfl rfl, gt_1 15 rfl rfl, by decide, by decide, by decide +kernel⟩
def yX12_nameHere : MethodName := ⟨RX12, "nameHere", "()I"⟩
abbrev cX12_nameHere : ByteArray := prog_14_method_8_code
def mX12_nameHere : aM := (yX12_nameHere, cX12_nameHere, 4, (some .int), 1, 0, { frames := 1, cells := 0, slots := 0, locals := 21 })
theorem ok_X12_nameHere : okM mX12_nameHere := ⟨by decide, gt_5 213 rfl rfl, gt_1 15 rfl rfl, by decide, by decide, by decide +kernel⟩
def yX12_next : MethodName := ⟨RX12, "next", "()V"⟩
abbrev cX12_next : ByteArray := prog_14_method_9_code
def mX12_next : aM := (yX12_next, cX12_next, 2, none, 0, 0, { frames := 1, cells := 0, slots := 0, locals := 25 })
theorem ok_X12_next : okM mX12_next := ⟨by decide, gt_5 193 rfl rfl, gt_1 15 rfl rfl, by decide, by decide, by decide +kernel⟩
def yX12_here : MethodName := ⟨RX12, "here", "(II)I"⟩
abbrev cX12_here : ByteArray := prog_14_method_10_code
def mX12_here : aM := (yX12_here, cX12_here, 3, (some .int), 1, 2, { frames := 1, cells := 0, slots := 0, locals := 25 })
theorem ok_X12_here : okM mX12_here := ⟨by decide, gt_5 222 rfl rfl, gt_1 15 rfl rfl, by decide, by decide, by decide +kernel⟩
def yX12_number : MethodName := ⟨RX12, "number", "(II)I"⟩
abbrev cX12_number : ByteArray := prog_14_method_11_code
def mX12_number : aM := (yX12_number, cX12_number, 4, (some .int), 1, 2, { frames := 2, cells := 0, slots := 0, locals := 47 })
theorem ok_X12_number : okM mX12_number := ⟨by decide, gt_5 218 rfl rfl, gt_1 15 rfl rfl, by decide, by decide, by decide +kernel⟩
def yX12_readWay : MethodName := ⟨RX12, "readWay", "()V"⟩
abbrev cX12_readWay : ByteArray := prog_14_method_12_code
def mX12_readWay : aM := (yX12_readWay, cX12_readWay, 4, none, 0, 0, { frames := 3, cells := 0, slots := 0, locals := 70 })
theorem ok_X12_readWay : okM mX12_readWay := ⟨by decide, gt_5 226 rfl rfl, gt_1 15 rfl rfl, by decide, by decide, by decide +kernel⟩
def yX12_readShut : MethodName := ⟨RX12, "readShut", "()V"⟩
abbrev cX12_readShut : ByteArray := prog_14_method_13_code
def mX12_readShut : aM := (yX12_readShut, cX12_readShut, 6, none, 0, 0, { frames := 3, cells := 0, slots := 0, locals := 70 })
theorem ok_X12_readShut : okM mX12_readShut := ⟨by decide, gt_5 230 rfl rfl, gt_1 15 rfl rfl, by decide, by decide, by decide +kernel⟩
def yX12_readRule : MethodName := ⟨RX12, "readRule", "(I)V"⟩
abbrev cX12_readRule : ByteArray := prog_14_method_14_code
def mX12_readRule : aM := (yX12_readRule, cX12_readRule, 5, none, 0, 1, { frames := 3, cells := 0, slots := 0, locals := 70 })
theorem ok_X12_readRule : okM mX12_readRule := ⟨by decide, gt_5 234 rfl rfl, gt_1 15 rfl rfl, by decide, by decide, by decide +kernel⟩
def yX12_readLine : MethodName := ⟨RX12, "readLine", "()V"⟩
abbrev cX12_readLine : ByteArray := prog_14_method_15_code
def mX12_readLine : aM := (yX12_readLine, cX12_readLine, 3, none, 0, 0, { frames := 4, cells := 0, slots := 0, locals := 95 })
theorem ok_X12_readLine : okM mX12_readLine := ⟨by decide, gt_5 209 rfl rfl, gt_1 15 rfl rfl, by decide, by decide, by decide +kernel⟩
def yX12_system : MethodName := ⟨RX12, "system", "()I"⟩
abbrev cX12_system : ByteArray := prog_14_method_16_code
def mX12_system : aM := (yX12_system, cX12_system, 3, (some .int), 1, 0, { frames := 5, cells := 0, slots := 0, locals := 117 })
theorem ok_X12_system : okM mX12_system := ⟨by decide, gt_5 189 rfl rfl, gt_1 15 rfl rfl, by decide, by decide, by decide +kernel⟩
def yX12_fault : MethodName := ⟨RX12, "fault", "()I"⟩
abbrev cX12_fault : ByteArray := prog_14_method_17_code
def mX12_fault : aM := (yX12_fault, cX12_fault, 1, (some .int), 1, 0, { frames := 0, cells := 0, slots := 0, locals := 0 })
theorem ok_X12_fault : okM mX12_fault := ⟨by decide, gt_5 238 rfl rfl, gt_1 15 rfl rfl, by decide, by decide, by decide +kernel⟩
def yX12_told : MethodName := ⟨RX12, "told", "(I)I"⟩
abbrev cX12_told : ByteArray := prog_14_method_18_code
def mX12_told : aM := (yX12_told, cX12_told, 2, (some .int), 1, 1, { frames := 1, cells := 0, slots := 0, locals := 25 })
theorem ok_X12_told : okM mX12_told := ⟨by decide, gt_6 2 rfl rfl, gt_1 15 rfl rfl, by decide, by decide, by decide +kernel⟩
def yX12_isPlace : MethodName := ⟨RX12, "isPlace", "(I)Z"⟩
abbrev cX12_isPlace : ByteArray := prog_14_method_19_code
def mX12_isPlace : aM := (yX12_isPlace, cX12_isPlace, 2, (some .boolean), 1, 1, { frames := 1, cells := 0, slots := 0, locals := 25 })
theorem ok_X12_isPlace : okM mX12_isPlace := ⟨by decide, gt_6 11 rfl rfl, gt_1 15 rfl rfl, by decide, by decide, by decide +kernel⟩
def yX12_isMinute : MethodName := ⟨RX12, "isMinute", "(I)Z"⟩
abbrev cX12_isMinute : ByteArray := prog_14_method_20_code
def mX12_isMinute : aM := (yX12_isMinute, cX12_isMinute, 1, (some .boolean), 1, 1, { frames := 1, cells := 0, slots := 0, locals := 25 })
theorem ok_X12_isMinute : okM mX12_isMinute := ⟨by decide, gt_6 18 rfl rfl, gt_1 15 rfl rfl, by decide, by decide, by decide +kernel⟩
def yX12_way : MethodName := ⟨RX12, "way", "(II)I"⟩
abbrev cX12_way : ByteArray := prog_14_method_21_code
def mX12_way : aM := (yX12_way, cX12_way, 3, (some .int), 1, 2, { frames := 2, cells := 0, slots := 0, locals := 46 })
theorem ok_X12_way : okM mX12_way := ⟨by decide, gt_6 7 rfl rfl, gt_1 15 rfl rfl, by decide, by decide, by decide +kernel⟩
def yX12_leaves : MethodName := ⟨RX12, "leaves", "(III)I"⟩
abbrev cX12_leaves : ByteArray := prog_14_method_22_code
def mX12_leaves : aM := (yX12_leaves, cX12_leaves, 8, (some .int), 1, 3, { frames := 1, cells := 0, slots := 0, locals := 25 })
theorem ok_X12_leaves : okM mX12_leaves := ⟨by decide, gt_6 31 rfl rfl, gt_1 15 rfl rfl, by decide, by decide, by decide +kernel⟩
def yX12_layNews : MethodName := ⟨RX12, "layNews", "(II)V"⟩
abbrev cX12_layNews : ByteArray := prog_14_method_23_code
def mX12_layNews : aM := (yX12_layNews, cX12_layNews, 8, none, 0, 2, { frames := 2, cells := 0, slots := 0, locals := 52 })
theorem ok_X12_layNews : okM mX12_layNews := ⟨by decide, gt_6 27 rfl rfl, gt_1 15 rfl rfl, by decide, by decide, by decide +kernel⟩
def yX12_news : MethodName := ⟨RX12, "news", "(III)I"⟩
abbrev cX12_news : ByteArray := prog_14_method_24_code
def mX12_news : aM := (yX12_news, cX12_news, 4, (some .int), 1, 3, { frames := 3, cells := 0, slots := 0, locals := 79 })
theorem ok_X12_news : okM mX12_news := ⟨by decide, gt_6 23 rfl rfl, gt_1 15 rfl rfl, by decide, by decide, by decide +kernel⟩
def yX12_orNone : MethodName := ⟨RX12, "orNone", "(I)I"⟩
abbrev cX12_orNone : ByteArray := prog_14_method_25_code
def mX12_orNone : aM := (yX12_orNone, cX12_orNone, 1, (some .int), 1, 1, { frames := 0, cells := 0, slots := 0, locals := 0 })
theorem ok_X12_orNone : okM mX12_orNone := ⟨by decide, gt_6 34 rfl rfl, gt_1 15 rfl rfl, by decide, by decide, by decide +kernel⟩
def yX12_comes : MethodName := ⟨RX12, "comes", "(III)I"⟩
abbrev cX12_comes : ByteArray := prog_14_method_26_code
def mX12_comes : aM := (yX12_comes, cX12_comes, 4, (some .int), 1, 3, { frames := 4, cells := 0, slots := 0, locals := 102 })
theorem ok_X12_comes : okM mX12_comes := ⟨by decide, gt_6 15 rfl rfl, gt_1 15 rfl rfl, by decide, by decide, by decide +kernel⟩
def yX12_latest : MethodName := ⟨RX12, "latest", "(III)I"⟩
abbrev cX12_latest : ByteArray := prog_14_method_27_code
def mX12_latest : aM := (yX12_latest, cX12_latest, 5, (some .int), 1, 3, { frames := 4, cells := 0, slots := 0, locals := 102 })
theorem ok_X12_latest : okM mX12_latest := ⟨by decide, gt_6 43 rfl rfl, gt_1 15 rfl rfl, by decide, by decide, by decide +kernel⟩
def yX12_knows : MethodName := ⟨RX12, "knows", "(IIII)I"⟩
abbrev cX12_knows : ByteArray := prog_14_method_28_code
def mX12_knows : aM := (yX12_knows, cX12_knows, 6, (some .int), 1, 4, { frames := 5, cells := 0, slots := 0, locals := 126 })
theorem ok_X12_knows : okM mX12_knows := ⟨by decide, gt_6 38 rfl rfl, gt_1 15 rfl rfl, by decide, by decide, by decide +kernel⟩
def yX12_step : MethodName := ⟨RX12, "step", "(III)I"⟩
abbrev cX12_step : ByteArray := prog_14_method_29_code
def mX12_step : aM := (yX12_step, cX12_step, 4, (some .int), 1, 3, { frames := 2, cells := 0, slots := 0, locals := 46 })
theorem ok_X12_step : okM mX12_step := ⟨by decide, gt_6 51 rfl rfl, gt_1 15 rfl rfl, by decide, by decide, by decide +kernel⟩
def yX12_addStep : MethodName := ⟨RX12, "addStep", "(III)V"⟩
abbrev cX12_addStep : ByteArray := prog_14_method_30_code
def mX12_addStep : aM := (yX12_addStep, cX12_addStep, 5, none, 0, 3, { frames := 0, cells := 0, slots := 0, locals := 0 })
theorem ok_X12_addStep : okM mX12_addStep := ⟨by decide, gt_6 55 rfl rfl, gt_1 15 rfl rfl, by decide, by decide, by decide +kernel⟩
def yX12_priceAt : MethodName := ⟨RX12, "priceAt", "(II)I"⟩
abbrev cX12_priceAt : ByteArray := prog_14_method_31_code
def mX12_priceAt : aM := (yX12_priceAt, cX12_priceAt, 6, (some .int), 1, 2, { frames := 1, cells := 0, slots := 0, locals := 25 })
theorem ok_X12_priceAt : okM mX12_priceAt := ⟨by decide, gt_6 47 rfl rfl, gt_1 15 rfl rfl, by decide, by decide, by decide +kernel⟩
def yX12_price : MethodName := ⟨RX12, "price", "(II)I"⟩
abbrev cX12_price : ByteArray := prog_14_method_32_code
def mX12_price : aM := (yX12_price, cX12_price, 3, (some .int), 1, 2, { frames := 2, cells := 0, slots := 0, locals := 50 })
theorem ok_X12_price : okM mX12_price := ⟨by decide, gt_6 59 rfl rfl, gt_1 15 rfl rfl, by decide, by decide, by decide +kernel⟩
def yX12_dearest : MethodName := ⟨RX12, "dearest", "(III)I"⟩
abbrev cX12_dearest : ByteArray := prog_14_method_33_code
def mX12_dearest : aM := (yX12_dearest, cX12_dearest, 10, (some .int), 1, 3, { frames := 5, cells := 0, slots := 0, locals := 126 })
theorem ok_X12_dearest : okM mX12_dearest := ⟨by decide, gt_6 63 rfl rfl, gt_1 15 rfl rfl, by decide, by decide, by decide +kernel⟩
def yX12_isCall : MethodName := ⟨RX12, "isCall", "(I)Z"⟩
abbrev cX12_isCall : ByteArray := prog_14_method_34_code
def mX12_isCall : aM := (yX12_isCall, cX12_isCall, 2, (some .boolean), 1, 1, { frames := 1, cells := 0, slots := 0, locals := 25 })
theorem ok_X12_isCall : okM mX12_isCall := ⟨by decide, gt_6 77 rfl rfl, gt_1 15 rfl rfl, by decide, by decide, by decide +kernel⟩
def yX12_its : MethodName := ⟨RX12, "its", "(II)I"⟩
abbrev cX12_its : ByteArray := prog_14_method_35_code
def mX12_its : aM := (yX12_its, cX12_its, 3, (some .int), 1, 2, { frames := 0, cells := 0, slots := 0, locals := 0 })
theorem ok_X12_its : okM mX12_its := ⟨by decide, gt_6 81 rfl rfl, gt_1 15 rfl rfl, by decide, by decide, by decide +kernel⟩
def yX12_takenBack : MethodName := ⟨RX12, "takenBack", "(I)I"⟩
abbrev cX12_takenBack : ByteArray := prog_14_method_36_code
def mX12_takenBack : aM := (yX12_takenBack, cX12_takenBack, 2, (some .int), 1, 1, { frames := 1, cells := 0, slots := 0, locals := 22 })
theorem ok_X12_takenBack : okM mX12_takenBack := ⟨by decide, gt_6 85 rfl rfl, gt_1 15 rfl rfl, by decide, by decide, by decide +kernel⟩
def yX12_call : MethodName := ⟨RX12, "call", "(IIIIIII)I"⟩
abbrev cX12_call : ByteArray := prog_14_method_37_code
def mX12_call : aM := (yX12_call, cX12_call, 11, (some .int), 1, 7, { frames := 2, cells := 0, slots := 0, locals := 46 })
theorem ok_X12_call : okM mX12_call := ⟨by decide, gt_6 68 rfl rfl, gt_1 15 rfl rfl, by decide, by decide, by decide +kernel⟩
def yX12_takeBack : MethodName := ⟨RX12, "takeBack", "(II)I"⟩
abbrev cX12_takeBack : ByteArray := prog_14_method_38_code
def mX12_takeBack : aM := (yX12_takeBack, cX12_takeBack, 4, (some .int), 1, 2, { frames := 2, cells := 0, slots := 0, locals := 46 })
theorem ok_X12_takeBack : okM mX12_takeBack := ⟨by decide, gt_6 73 rfl rfl, gt_1 15 rfl rfl, by decide, by decide, by decide +kernel⟩
def yX12_ends : MethodName := ⟨RX12, "ends", "(I)I"⟩
abbrev cX12_ends : ByteArray := prog_14_method_39_code
def mX12_ends : aM := (yX12_ends, cX12_ends, 6, (some .int), 1, 1, { frames := 2, cells := 0, slots := 0, locals := 50 })
theorem ok_X12_ends : okM mX12_ends := ⟨by decide, gt_6 94 rfl rfl, gt_1 15 rfl rfl, by decide, by decide, by decide +kernel⟩
def yX12_standsIn : MethodName := ⟨RX12, "standsIn", "(II)Z"⟩
abbrev cX12_standsIn : ByteArray := prog_14_method_40_code
def mX12_standsIn : aM := (yX12_standsIn, cX12_standsIn, 3, (some .boolean), 1, 2, { frames := 3, cells := 0, slots := 0, locals := 75 })
theorem ok_X12_standsIn : okM mX12_standsIn := ⟨by decide, gt_6 118 rfl rfl, gt_1 15 rfl rfl, by decide, by decide, by decide +kernel⟩
def yX12_of : MethodName := ⟨RX12, "of", "(II)I"⟩
abbrev cX12_of : ByteArray := prog_14_method_41_code
def mX12_of : aM := (yX12_of, cX12_of, 6, (some .int), 1, 2, { frames := 5, cells := 0, slots := 0, locals := 127 })
theorem ok_X12_of : okM mX12_of := ⟨by decide, gt_6 89 rfl rfl, gt_1 15 rfl rfl, by decide, by decide, by decide +kernel⟩
def yX12_stands : MethodName := ⟨RX12, "stands", "(II)I"⟩
abbrev cX12_stands : ByteArray := prog_14_method_42_code
def mX12_stands : aM := (yX12_stands, cX12_stands, 3, (some .int), 1, 2, { frames := 4, cells := 0, slots := 0, locals := 97 })
theorem ok_X12_stands : okM mX12_stands := ⟨by decide, gt_6 122 rfl rfl, gt_1 15 rfl rfl, by decide, by decide, by decide +kernel⟩
def yX12_seenBy : MethodName := ⟨RX12, "seenBy", "(III)I"⟩
abbrev cX12_seenBy : ByteArray := prog_14_method_43_code
def mX12_seenBy : aM := (yX12_seenBy, cX12_seenBy, 4, (some .int), 1, 3, { frames := 4, cells := 0, slots := 0, locals := 102 })
theorem ok_X12_seenBy : okM mX12_seenBy := ⟨by decide, gt_6 130 rfl rfl, gt_1 15 rfl rfl, by decide, by decide, by decide +kernel⟩
def yX12_seen : MethodName := ⟨RX12, "seen", "(III)I"⟩
abbrev cX12_seen : ByteArray := prog_14_method_44_code
def mX12_seen : aM := (yX12_seen, cX12_seen, 4, (some .int), 1, 3, { frames := 5, cells := 0, slots := 0, locals := 125 })
theorem ok_X12_seen : okM mX12_seen := ⟨by decide, gt_6 126 rfl rfl, gt_1 15 rfl rfl, by decide, by decide, by decide +kernel⟩
def yX12_deals : MethodName := ⟨RX12, "deals", "()I"⟩
abbrev cX12_deals : ByteArray := prog_14_method_45_code
def mX12_deals : aM := (yX12_deals, cX12_deals, 1, (some .int), 1, 0, { frames := 0, cells := 0, slots := 0, locals := 0 })
theorem ok_X12_deals : okM mX12_deals := ⟨by decide, gt_6 102 rfl rfl, gt_1 15 rfl rfl, by decide, by decide, by decide +kernel⟩
def yX12_sent4 : MethodName := ⟨RX12, "sent4", "(II)I"⟩
abbrev cX12_sent4 : ByteArray := prog_14_method_46_code
def mX12_sent4 : aM := (yX12_sent4, cX12_sent4, 3, (some .int), 1, 2, { frames := 0, cells := 0, slots := 0, locals := 0 })
theorem ok_X12_sent4 : okM mX12_sent4 := ⟨by decide, gt_6 106 rfl rfl, gt_1 15 rfl rfl, by decide, by decide, by decide +kernel⟩
def yX12_deal : MethodName := ⟨RX12, "deal", "(IIII)I"⟩
abbrev cX12_deal : ByteArray := prog_14_method_47_code
def mX12_deal : aM := (yX12_deal, cX12_deal, 6, (some .int), 1, 4, { frames := 5, cells := 0, slots := 0, locals := 125 })
theorem ok_X12_deal : okM mX12_deal := ⟨by decide, gt_6 134 rfl rfl, gt_1 15 rfl rfl, by decide, by decide, by decide +kernel⟩
def yX12_rank : MethodName := ⟨RX12, "rank", "(I)I"⟩
abbrev cX12_rank : ByteArray := prog_14_method_48_code
def mX12_rank : aM := (yX12_rank, cX12_rank, 2, (some .int), 1, 1, { frames := 1, cells := 0, slots := 0, locals := 22 })
theorem ok_X12_rank : okM mX12_rank := ⟨by decide, gt_6 114 rfl rfl, gt_1 15 rfl rfl, by decide, by decide, by decide +kernel⟩
def yX12_isAhead : MethodName := ⟨RX12, "isAhead", "(II)Z"⟩
abbrev cX12_isAhead : ByteArray := prog_14_method_49_code
def mX12_isAhead : aM := (yX12_isAhead, cX12_isAhead, 3, (some .boolean), 1, 2, { frames := 2, cells := 0, slots := 0, locals := 43 })
theorem ok_X12_isAhead : okM mX12_isAhead := ⟨by decide, gt_6 110 rfl rfl, gt_1 15 rfl rfl, by decide, by decide, by decide +kernel⟩
def yX12_layStruck : MethodName := ⟨RX12, "layStruck", "()V"⟩
abbrev cX12_layStruck : ByteArray := prog_14_method_50_code
def mX12_layStruck : aM := (yX12_layStruck, cX12_layStruck, 6, none, 0, 0, { frames := 4, cells := 0, slots := 0, locals := 102 })
theorem ok_X12_layStruck : okM mX12_layStruck := ⟨by decide, gt_6 98 rfl rfl, gt_1 15 rfl rfl, by decide, by decide, by decide +kernel⟩
def yX12_isDeal : MethodName := ⟨RX12, "isDeal", "(I)Z"⟩
abbrev cX12_isDeal : ByteArray := prog_14_method_51_code
def mX12_isDeal : aM := (yX12_isDeal, cX12_isDeal, 2, (some .boolean), 1, 1, { frames := 1, cells := 0, slots := 0, locals := 25 })
theorem ok_X12_isDeal : okM mX12_isDeal := ⟨by decide, gt_6 142 rfl rfl, gt_1 15 rfl rfl, by decide, by decide, by decide +kernel⟩
def yX12_sent : MethodName := ⟨RX12, "sent", "(II)I"⟩
abbrev cX12_sent : ByteArray := prog_14_method_52_code
def mX12_sent : aM := (yX12_sent, cX12_sent, 3, (some .int), 1, 2, { frames := 5, cells := 0, slots := 0, locals := 127 })
theorem ok_X12_sent : okM mX12_sent := ⟨by decide, gt_6 138 rfl rfl, gt_1 15 rfl rfl, by decide, by decide, by decide +kernel⟩
def yX12_empty : MethodName := ⟨RX12, "empty", "(I)I"⟩
abbrev cX12_empty : ByteArray := prog_14_method_53_code
def mX12_empty : aM := (yX12_empty, cX12_empty, 6, (some .int), 1, 1, { frames := 5, cells := 0, slots := 0, locals := 127 })
theorem ok_X12_empty : okM mX12_empty := ⟨by decide, gt_6 147 rfl rfl, gt_1 15 rfl rfl, by decide, by decide, by decide +kernel⟩
def yX12_pays : MethodName := ⟨RX12, "pays", "(II)I"⟩
abbrev cX12_pays : ByteArray := prog_14_method_54_code
def mX12_pays : aM := (yX12_pays, cX12_pays, 6, (some .int), 1, 2, { frames := 1, cells := 0, slots := 0, locals := 22 })
theorem ok_X12_pays : okM mX12_pays := ⟨by decide, gt_6 159 rfl rfl, gt_1 15 rfl rfl, by decide, by decide, by decide +kernel⟩
def yX12_owed : MethodName := ⟨RX12, "owed", "(II)I"⟩
abbrev cX12_owed : ByteArray := prog_14_method_55_code
def mX12_owed : aM := (yX12_owed, cX12_owed, 5, (some .int), 1, 2, { frames := 2, cells := 0, slots := 0, locals := 47 })
theorem ok_X12_owed : okM mX12_owed := ⟨by decide, gt_6 155 rfl rfl, gt_1 15 rfl rfl, by decide, by decide, by decide +kernel⟩
def yX12_greatest : MethodName := ⟨RX12, "greatest", "(III)I"⟩
abbrev cX12_greatest : ByteArray := prog_14_method_56_code
def mX12_greatest : aM := (yX12_greatest, cX12_greatest, 9, (some .int), 1, 3, { frames := 2, cells := 0, slots := 0, locals := 47 })
theorem ok_X12_greatest : okM mX12_greatest := ⟨by decide, gt_6 163 rfl rfl, gt_1 15 rfl rfl, by decide, by decide, by decide +kernel⟩
def yX12_undo : MethodName := ⟨RX12, "undo", "(II)I"⟩
abbrev cX12_undo : ByteArray := prog_14_method_57_code
def mX12_undo : aM := (yX12_undo, cX12_undo, 8, (some .int), 1, 2, { frames := 5, cells := 0, slots := 0, locals := 127 })
theorem ok_X12_undo : okM mX12_undo := ⟨by decide, gt_6 151 rfl rfl, gt_1 15 rfl rfl, by decide, by decide, by decide +kernel⟩
def yX12_isOffer : MethodName := ⟨RX12, "isOffer", "(IIIZ)Z"⟩
abbrev cX12_isOffer : ByteArray := prog_14_method_58_code
def mX12_isOffer : aM := (yX12_isOffer, cX12_isOffer, 8, (some .boolean), 1, 4, { frames := 5, cells := 0, slots := 0, locals := 125 })
theorem ok_X12_isOffer : okM mX12_isOffer := ⟨by decide, gt_6 175 rfl rfl, gt_1 15 rfl rfl, by decide, by decide, by decide +kernel⟩
def yX12_bestOf : MethodName := ⟨RX12, "bestOf", "(I)I"⟩
abbrev cX12_bestOf : ByteArray := prog_14_method_59_code
def mX12_bestOf : aM := (yX12_bestOf, cX12_bestOf, 6, (some .int), 1, 1, { frames := 1, cells := 0, slots := 0, locals := 22 })
theorem ok_X12_bestOf : okM mX12_bestOf := ⟨by decide, gt_6 179 rfl rfl, gt_1 15 rfl rfl, by decide, by decide, by decide +kernel⟩
def yX12_layGain : MethodName := ⟨RX12, "layGain", "(IIZ)V"⟩
abbrev cX12_layGain : ByteArray := prog_14_method_60_code
def mX12_layGain : aM := (yX12_layGain, cX12_layGain, 8, none, 0, 3, { frames := 6, cells := 0, slots := 0, locals := 152 })
theorem ok_X12_layGain : okM mX12_layGain := ⟨by decide, gt_6 171 rfl rfl, gt_1 15 rfl rfl, by decide, by decide, by decide +kernel⟩
def yX12_gain : MethodName := ⟨RX12, "gain", "(IIZI)I"⟩
abbrev cX12_gain : ByteArray := prog_14_method_61_code
def mX12_gain : aM := (yX12_gain, cX12_gain, 5, (some .int), 1, 4, { frames := 7, cells := 0, slots := 0, locals := 179 })
theorem ok_X12_gain : okM mX12_gain := ⟨by decide, gt_6 167 rfl rfl, gt_1 15 rfl rfl, by decide, by decide, by decide +kernel⟩
def yX12_chance : MethodName := ⟨RX12, "chance", "(IIZ)I"⟩
abbrev cX12_chance : ByteArray := prog_14_method_62_code
def mX12_chance : aM := (yX12_chance, cX12_chance, 5, (some .int), 1, 3, { frames := 7, cells := 0, slots := 0, locals := 179 })
theorem ok_X12_chance : okM mX12_chance := ⟨by decide, gt_6 183 rfl rfl, gt_1 15 rfl rfl, by decide, by decide, by decide +kernel⟩
def yX12_atMost : MethodName := ⟨RX12, "atMost", "(II)I"⟩
abbrev cX12_atMost : ByteArray := prog_14_method_63_code
def mX12_atMost : aM := (yX12_atMost, cX12_atMost, 7, (some .int), 1, 2, { frames := 4, cells := 0, slots := 0, locals := 97 })
theorem ok_X12_atMost : okM mX12_atMost := ⟨by decide, gt_6 192 rfl rfl, gt_1 15 rfl rfl, by decide, by decide, by decide +kernel⟩
def yX12_owes : MethodName := ⟨RX12, "owes", "(IIII)I"⟩
abbrev cX12_owes : ByteArray := prog_14_method_64_code
def mX12_owes : aM := (yX12_owes, cX12_owes, 7, (some .int), 1, 4, { frames := 5, cells := 0, slots := 0, locals := 127 })
theorem ok_X12_owes : okM mX12_owes := ⟨by decide, gt_6 187 rfl rfl, gt_1 15 rfl rfl, by decide, by decide, by decide +kernel⟩
def yX12_over : MethodName := ⟨RX12, "over", "(I)I"⟩
abbrev cX12_over : ByteArray := prog_14_method_65_code
def mX12_over : aM := (yX12_over, cX12_over, 4, (some .int), 1, 1, { frames := 5, cells := 0, slots := 0, locals := 127 })
theorem ok_X12_over : okM mX12_over := ⟨by decide, gt_6 196 rfl rfl, gt_1 15 rfl rfl, by decide, by decide, by decide +kernel⟩
def yX12_peak : MethodName := ⟨RX12, "peak", "(II)I"⟩
abbrev cX12_peak : ByteArray := prog_14_method_66_code
def mX12_peak : aM := (yX12_peak, cX12_peak, 7, (some .int), 1, 2, { frames := 5, cells := 0, slots := 0, locals := 127 })
theorem ok_X12_peak : okM mX12_peak := ⟨by decide, gt_6 200 rfl rfl, gt_1 15 rfl rfl, by decide, by decide, by decide +kernel⟩
def yX12_waitOf : MethodName := ⟨RX12, "waitOf", "(II)I"⟩
abbrev cX12_waitOf : ByteArray := prog_14_method_67_code
def mX12_waitOf : aM := (yX12_waitOf, cX12_waitOf, 6, (some .int), 1, 2, { frames := 4, cells := 0, slots := 0, locals := 102 })
theorem ok_X12_waitOf : okM mX12_waitOf := ⟨by decide, gt_6 208 rfl rfl, gt_1 15 rfl rfl, by decide, by decide, by decide +kernel⟩
def yX12_waits : MethodName := ⟨RX12, "waits", "(II)I"⟩
abbrev cX12_waits : ByteArray := prog_14_method_68_code
def mX12_waits : aM := (yX12_waits, cX12_waits, 3, (some .int), 1, 2, { frames := 5, cells := 0, slots := 0, locals := 127 })
theorem ok_X12_waits : okM mX12_waits := ⟨by decide, gt_6 204 rfl rfl, gt_1 15 rfl rfl, by decide, by decide, by decide +kernel⟩
def yX12_book : MethodName := ⟨RX12, "book", "(II)I"⟩
abbrev cX12_book : ByteArray := prog_14_method_69_code
def mX12_book : aM := (yX12_book, cX12_book, 7, (some .int), 1, 2, { frames := 5, cells := 0, slots := 0, locals := 127 })
theorem ok_X12_book : okM mX12_book := ⟨by decide, gt_6 212 rfl rfl, gt_1 15 rfl rfl, by decide, by decide, by decide +kernel⟩
def yX12_enough : MethodName := ⟨RX12, "enough", "(III)I"⟩
abbrev cX12_enough : ByteArray := prog_14_method_70_code
def mX12_enough : aM := (yX12_enough, cX12_enough, 7, (some .int), 1, 3, { frames := 5, cells := 0, slots := 0, locals := 127 })
theorem ok_X12_enough : okM mX12_enough := ⟨by decide, gt_6 216 rfl rfl, gt_1 15 rfl rfl, by decide, by decide, by decide +kernel⟩
def yX12_layWalks : MethodName := ⟨RX12, "layWalks", "(I)V"⟩
abbrev cX12_layWalks : ByteArray := prog_14_method_71_code
def mX12_layWalks : aM := (yX12_layWalks, cX12_layWalks, 8, none, 0, 1, { frames := 0, cells := 0, slots := 0, locals := 0 })
theorem ok_X12_layWalks : okM mX12_layWalks := ⟨by decide, gt_6 227 rfl rfl, gt_1 15 rfl rfl, by decide, by decide, by decide +kernel⟩
def yX12_lowest : MethodName := ⟨RX12, "lowest", "(JJI)J"⟩
abbrev cX12_lowest : ByteArray := prog_14_method_72_code
def mX12_lowest : aM := (yX12_lowest, cX12_lowest, 11, (some .long), 2, 3, { frames := 0, cells := 0, slots := 0, locals := 0 })
theorem ok_X12_lowest : okM mX12_lowest := ⟨by decide, gt_6 230 rfl rfl, gt_1 15 rfl rfl, by decide, by decide, by decide +kernel⟩
def yX12_odds : MethodName := ⟨RX12, "odds", "(III)J"⟩
abbrev cX12_odds : ByteArray := prog_14_method_73_code
def mX12_odds : aM := (yX12_odds, cX12_odds, 4, (some .long), 2, 3, { frames := 1, cells := 0, slots := 0, locals := 30 })
theorem ok_X12_odds : okM mX12_odds := ⟨by decide, gt_6 220 rfl rfl, gt_1 15 rfl rfl, by decide, by decide, by decide +kernel⟩
def yX12_lossOf : MethodName := ⟨RX12, "lossOf", "(II)J"⟩
abbrev cX12_lossOf : ByteArray := prog_14_method_74_code
def mX12_lossOf : aM := (yX12_lossOf, cX12_lossOf, 7, (some .long), 2, 2, { frames := 1, cells := 0, slots := 0, locals := 27 })
theorem ok_X12_lossOf : okM mX12_lossOf := ⟨by decide, gt_6 238 rfl rfl, gt_1 15 rfl rfl, by decide, by decide, by decide +kernel⟩
def yX12_loss : MethodName := ⟨RX12, "loss", "(III)J"⟩
abbrev cX12_loss : ByteArray := prog_14_method_75_code
def mX12_loss : aM := (yX12_loss, cX12_loss, 6, (some .long), 2, 3, { frames := 2, cells := 0, slots := 0, locals := 53 })
theorem ok_X12_loss : okM mX12_loss := ⟨by decide, gt_6 234 rfl rfl, gt_1 15 rfl rfl, by decide, by decide, by decide +kernel⟩
def yX12_isNoMore : MethodName := ⟨RX12, "isNoMore", "(JJJJ)Z"⟩
abbrev cX12_isNoMore : ByteArray := prog_14_method_76_code
def mX12_isNoMore : aM := (yX12_isNoMore, cX12_isNoMore, 20, (some .boolean), 1, 4, { frames := 0, cells := 0, slots := 0, locals := 0 })
theorem ok_X12_isNoMore : okM mX12_isNoMore := ⟨by decide, gt_7 5 rfl rfl, gt_1 15 rfl rfl, by decide, by decide, by decide +kernel⟩
def yX12_wide : MethodName := ⟨RX12, "wide", "(III)I"⟩
abbrev cX12_wide : ByteArray := prog_14_method_77_code
def mX12_wide : aM := (yX12_wide, cX12_wide, 7, (some .int), 1, 3, { frames := 2, cells := 0, slots := 0, locals := 53 })
theorem ok_X12_wide : okM mX12_wide := ⟨by decide, gt_7 2 rfl rfl, gt_1 15 rfl rfl, by decide, by decide, by decide +kernel⟩
def yX12_near : MethodName := ⟨RX12, "near", "(IIII)J"⟩
abbrev cX12_near : ByteArray := prog_14_method_78_code
def mX12_near : aM := (yX12_near, cX12_near, 9, (some .long), 2, 4, { frames := 2, cells := 0, slots := 0, locals := 53 })
theorem ok_X12_near : okM mX12_near := ⟨by decide, gt_7 9 rfl rfl, gt_1 15 rfl rfl, by decide, by decide, by decide +kernel⟩
def yX12_keep : MethodName := ⟨RX12, "keep", "(I)I"⟩
abbrev cX12_keep : ByteArray := prog_14_method_79_code
def mX12_keep : aM := (yX12_keep, cX12_keep, 3, (some .int), 1, 1, { frames := 1, cells := 0, slots := 0, locals := 25 })
theorem ok_X12_keep : okM mX12_keep := ⟨by decide, gt_7 13 rfl rfl, gt_1 15 rfl rfl, by decide, by decide, by decide +kernel⟩
def yX12_back : MethodName := ⟨RX12, "back", "(I)I"⟩
abbrev cX12_back : ByteArray := prog_14_method_80_code
def mX12_back : aM := (yX12_back, cX12_back, 3, (some .int), 1, 1, { frames := 1, cells := 0, slots := 0, locals := 25 })
theorem ok_X12_back : okM mX12_back := ⟨by decide, gt_7 17 rfl rfl, gt_1 15 rfl rfl, by decide, by decide, by decide +kernel⟩
def yX12_sheet : MethodName := ⟨RX12, "sheet", "(III)I"⟩
abbrev cX12_sheet : ByteArray := prog_14_method_81_code
def mX12_sheet : aM := (yX12_sheet, cX12_sheet, 5, (some .int), 1, 3, { frames := 1, cells := 0, slots := 0, locals := 25 })
theorem ok_X12_sheet : okM mX12_sheet := ⟨by decide, gt_7 21 rfl rfl, gt_1 15 rfl rfl, by decide, by decide, by decide +kernel⟩
def yX12_lay : MethodName := ⟨RX12, "lay", "(III)I"⟩
abbrev cX12_lay : ByteArray := prog_14_method_82_code
def mX12_lay : aM := (yX12_lay, cX12_lay, 4, (some .int), 1, 3, { frames := 1, cells := 0, slots := 0, locals := 25 })
theorem ok_X12_lay : okM mX12_lay := ⟨by decide, gt_7 25 rfl rfl, gt_1 15 rfl rfl, by decide, by decide, by decide +kernel⟩
def yX12_read : MethodName := ⟨RX12, "read", "(IIII)I"⟩
abbrev cX12_read : ByteArray := prog_14_method_83_code
def mX12_read : aM := (yX12_read, cX12_read, 9, (some .int), 1, 4, { frames := 2, cells := 0, slots := 0, locals := 46 })
theorem ok_X12_read : okM mX12_read := ⟨by decide, gt_7 29 rfl rfl, gt_1 15 rfl rfl, by decide, by decide, by decide +kernel⟩
def yX12_torn : MethodName := ⟨RX12, "torn", "()I"⟩
abbrev cX12_torn : ByteArray := prog_14_method_84_code
def mX12_torn : aM := (yX12_torn, cX12_torn, 1, (some .int), 1, 0, { frames := 0, cells := 0, slots := 0, locals := 0 })
theorem ok_X12_torn : okM mX12_torn := ⟨by decide, gt_7 34 rfl rfl, gt_1 15 rfl rfl, by decide, by decide, by decide +kernel⟩
def yX12_count : MethodName := ⟨RX12, "count", "(I)I"⟩
abbrev cX12_count : ByteArray := prog_14_method_85_code
def mX12_count : aM := (yX12_count, cX12_count, 2, (some .int), 1, 1, { frames := 0, cells := 0, slots := 0, locals := 0 })
theorem ok_X12_count : okM mX12_count := ⟨by decide, gt_7 38 rfl rfl, gt_1 15 rfl rfl, by decide, by decide, by decide +kernel⟩
def yJ0_length_8abf5 : MethodName := ⟨"java/lang/String", "length", "()I"⟩
abbrev cJ0_length_8abf5 : ByteArray := prog_16_method_54_code
def mJ0_length_8abf5 : aM := (yJ0_length_8abf5, cJ0_length_8abf5, 1, (some .int), 1, 0, { frames := 1, cells := 0, slots := 0, locals := 20 })
theorem ok_J0_length_8abf5 : okM mJ0_length_8abf5 := ⟨by decide, gt_2 228 rfl rfl, gt_1 16 rfl rfl, by decide, by decide, by decide +kernel⟩
def yJ0_charAt_5068e : MethodName := ⟨"java/lang/String", "charAt", "(I)C"⟩
abbrev cJ0_charAt_5068e : ByteArray := prog_16_method_56_code
def mJ0_charAt_5068e : aM := (yJ0_charAt_5068e, cJ0_charAt_5068e, 2, (some .char), 1, 1, { frames := 4, cells := 0, slots := 0, locals := 85 })
theorem ok_J0_charAt_5068e : okM mJ0_charAt_5068e := ⟨by decide, gt_2 238 rfl rfl, gt_1 16 rfl rfl, by decide, by decide, by decide +kernel⟩
def yJ0_coder_7d493 : MethodName := ⟨"java/lang/String", "coder", "()B"⟩
abbrev cJ0_coder_7d493 : ByteArray := prog_16_method_152_code
def mJ0_coder_7d493 : aM := (yJ0_coder_7d493, cJ0_coder_7d493, 1, (some .byte), 1, 0, { frames := 0, cells := 0, slots := 0, locals := 0 })
theorem ok_J0_coder_7d493 : okM mJ0_coder_7d493 := ⟨by decide, gt_2 232 rfl rfl, gt_1 16 rfl rfl, by decide, by decide, by decide +kernel⟩
def yJ0_isLatin1_aae02 : MethodName := ⟨"java/lang/String", "isLatin1", "()Z"⟩
abbrev cJ0_isLatin1_aae02 : ByteArray := prog_16_method_154_code
def mJ0_isLatin1_aae02 : aM := (yJ0_isLatin1_aae02, cJ0_isLatin1_aae02, 1, (some .boolean), 1, 0, { frames := 0, cells := 0, slots := 0, locals := 0 })
theorem ok_J0_isLatin1_aae02 : okM mJ0_isLatin1_aae02 := ⟨by decide, gt_3 2 rfl rfl, gt_1 16 rfl rfl, by decide, by decide, by decide +kernel⟩
def yJ0_checkIndex_df160 : MethodName := ⟨"java/lang/String", "checkIndex", "(II)V"⟩
abbrev cJ0_checkIndex_df160 : ByteArray := prog_16_method_155_code
def mJ0_checkIndex_df160 : aM := (yJ0_checkIndex_df160, cJ0_checkIndex_df160, 2, none, 0, 2, { frames := 1, cells := 0, slots := 0, locals := 22 })
theorem ok_J0_checkIndex_df160 : okM mJ0_checkIndex_df160 := ⟨by decide, gt_3 8 rfl rfl, gt_1 16 rfl rfl, by decide, by decide, by decide +kernel⟩
def yJ1_charAt_3b067 : MethodName := ⟨"java/lang/StringLatin1", "charAt", "([BI)C"⟩
abbrev cJ1_charAt_3b067 : ByteArray := prog_17_method_2_code
def mJ1_charAt_3b067 : aM := (yJ1_charAt_3b067, cJ1_charAt_3b067, 2, (some .char), 1, 2, { frames := 2, cells := 0, slots := 0, locals := 43 })
theorem ok_J1_charAt_3b067 : okM mJ1_charAt_3b067 := ⟨by decide, gt_3 5 rfl rfl, gt_1 17 rfl rfl, by decide, by decide, by decide +kernel⟩
def yJ7_fill_d0a16 : MethodName := ⟨"java/util/Arrays", "fill", "([JJ)V"⟩
abbrev cJ7_fill_d0a16 : ByteArray := prog_20_method_101_code
def mJ7_fill_d0a16 : aM := (yJ7_fill_d0a16, cJ7_fill_d0a16, 5, none, 0, 2, { frames := 0, cells := 0, slots := 0, locals := 0 })
theorem ok_J7_fill_d0a16 : okM mJ7_fill_d0a16 := ⟨by decide, gt_4 185 rfl rfl, gt_1 4 rfl rfl, by decide, by decide, by decide +kernel⟩
def yJ7_fill_53178 : MethodName := ⟨"java/util/Arrays", "fill", "([II)V"⟩
abbrev cJ7_fill_53178 : ByteArray := prog_20_method_103_code
def mJ7_fill_53178 : aM := (yJ7_fill_53178, cJ7_fill_53178, 4, none, 0, 2, { frames := 0, cells := 0, slots := 0, locals := 0 })
theorem ok_J7_fill_53178 : okM mJ7_fill_53178 := ⟨by decide, gt_1 72 rfl rfl, gt_1 4 rfl rfl, by decide, by decide, by decide +kernel⟩
def yJ3_checkIndex_8e157 : MethodName := ⟨"jdk/internal/util/Preconditions", "checkIndex", "(IILjava/util/function/BiFunction;)I"⟩
abbrev cJ3_checkIndex_8e157 : ByteArray := prog_21_method_11_code
def mJ3_checkIndex_8e157 : aM := (yJ3_checkIndex_8e157, cJ3_checkIndex_8e157, 3, (some .int), 1, 3, { frames := 0, cells := 0, slots := 0, locals := 0 })
theorem ok_J3_checkIndex_8e157 : okM mJ3_checkIndex_8e157 := ⟨by decide, gt_3 13 rfl rfl, gt_1 18 rfl rfl, by decide, by decide, by decide +kernel⟩
def yL_law : MethodName := x
abbrev cL_law : ByteArray := code
def mL_law : aM := (x, code, 4, ret, 1, 1, room_1)
theorem fl_X0_25 : FL RX0 25 1 2 := ⟨_, rfl, by decide, gt_1 221 rfl rfl⟩
theorem fl_X0_31 : FL RX0 31 0 1 := ⟨_, rfl, by decide, gt_2 53 rfl rfl⟩
theorem fl_X0_32 : FL RX0 32 5 3 := ⟨_, rfl, by decide, gt_1 206 rfl rfl⟩
theorem fl_X0_9 : FL RX0 9 0 2 := ⟨_, rfl, by decide, gt_2 54 rfl rfl⟩
theorem fl_X0_15 : FL RX0 15 0 3 := ⟨_, rfl, by decide, gt_2 55 rfl rfl⟩
theorem fl_X0_21 : FL RX0 21 0 0 := ⟨_, rfl, by decide, gt_2 52 rfl rfl⟩
theorem fl_X0_18 : FL RX0 18 0 4 := ⟨_, rfl, by decide, gt_2 56 rfl rfl⟩
theorem fl_X0_63 : FL RX0 63 0 6 := ⟨_, rfl, by decide, gt_2 59 rfl rfl⟩
theorem fl_X0_60 : FL RX0 60 0 5 := ⟨_, rfl, by decide, gt_2 57 rfl rfl⟩
theorem fl_X1_14 : FL RX1 14 1 1 := ⟨_, rfl, by decide, gt_1 218 rfl rfl⟩
theorem fl_X1_20 : FL RX1 20 1 2 := ⟨_, rfl, by decide, gt_1 220 rfl rfl⟩
theorem fl_X1_23 : FL RX1 23 1 3 := ⟨_, rfl, by decide, gt_1 224 rfl rfl⟩
theorem fl_X1_26 : FL RX1 26 1 0 := ⟨_, rfl, by decide, gt_1 217 rfl rfl⟩
theorem fl_X1_38 : FL RX1 38 3 0 := ⟨_, rfl, by decide, gt_1 74 rfl rfl⟩
theorem fl_X1_30 : FL RX1 30 5 3 := ⟨_, rfl, by decide, gt_1 203 rfl rfl⟩
theorem fl_X2_9 : FL RX2 9 2 1 := ⟨_, rfl, by decide, gt_1 173 rfl rfl⟩
theorem fl_X2_18 : FL RX2 18 2 0 := ⟨_, rfl, by decide, gt_1 172 rfl rfl⟩
theorem fl_X2_28 : FL RX2 28 3 6 := ⟨_, rfl, by decide, gt_1 94 rfl rfl⟩
theorem fl_X2_46 : FL RX2 46 3 1 := ⟨_, rfl, by decide, gt_1 77 rfl rfl⟩
theorem fl_X2_15 : FL RX2 15 2 2 := ⟨_, rfl, by decide, gt_1 175 rfl rfl⟩
theorem fl_X3_15 : FL RX3 15 3 1 := ⟨_, rfl, by decide, gt_1 76 rfl rfl⟩
theorem fl_X3_27 : FL RX3 27 3 5 := ⟨_, rfl, by decide, gt_1 88 rfl rfl⟩
theorem fl_X3_9 : FL RX3 9 3 0 := ⟨_, rfl, by decide, gt_1 73 rfl rfl⟩
theorem fl_X3_18 : FL RX3 18 3 2 := ⟨_, rfl, by decide, gt_1 80 rfl rfl⟩
theorem fl_X3_21 : FL RX3 21 3 3 := ⟨_, rfl, by decide, gt_1 83 rfl rfl⟩
theorem fl_X3_24 : FL RX3 24 3 4 := ⟨_, rfl, by decide, gt_1 86 rfl rfl⟩
theorem fl_X3_39 : FL RX3 39 3 6 := ⟨_, rfl, by decide, gt_1 93 rfl rfl⟩
theorem fl_X3_43 : FL RX3 43 3 7 := ⟨_, rfl, by decide, gt_1 97 rfl rfl⟩
theorem fl_X3_46 : FL RX3 46 3 8 := ⟨_, rfl, by decide, gt_1 100 rfl rfl⟩
theorem fl_X3_49 : FL RX3 49 3 9 := ⟨_, rfl, by decide, gt_1 104 rfl rfl⟩
theorem fl_X3_52 : FL RX3 52 3 10 := ⟨_, rfl, by decide, gt_1 108 rfl rfl⟩
theorem fl_X4_15 : FL RX4 15 4 1 := ⟨_, rfl, by decide, gt_1 143 rfl rfl⟩
theorem fl_X4_9 : FL RX4 9 4 0 := ⟨_, rfl, by decide, gt_1 142 rfl rfl⟩
theorem fl_X4_49 : FL RX4 49 8 3 := ⟨_, rfl, by decide, gt_1 40 rfl rfl⟩
theorem fl_X4_60 : FL RX4 60 8 4 := ⟨_, rfl, by decide, gt_1 42 rfl rfl⟩
theorem fl_X4_66 : FL RX4 66 8 5 := ⟨_, rfl, by decide, gt_1 44 rfl rfl⟩
theorem fl_X4_103 : FL RX4 103 3 6 := ⟨_, rfl, by decide, gt_1 96 rfl rfl⟩
theorem fl_X4_110 : FL RX4 110 3 0 := ⟨_, rfl, by decide, gt_1 75 rfl rfl⟩
theorem fl_X4_118 : FL RX4 118 3 1 := ⟨_, rfl, by decide, gt_1 79 rfl rfl⟩
theorem fl_X4_121 : FL RX4 121 3 7 := ⟨_, rfl, by decide, gt_1 99 rfl rfl⟩
theorem fl_X4_124 : FL RX4 124 3 8 := ⟨_, rfl, by decide, gt_1 103 rfl rfl⟩
theorem fl_X4_127 : FL RX4 127 3 2 := ⟨_, rfl, by decide, gt_1 82 rfl rfl⟩
theorem fl_X4_130 : FL RX4 130 3 3 := ⟨_, rfl, by decide, gt_1 85 rfl rfl⟩
theorem fl_X4_133 : FL RX4 133 3 4 := ⟨_, rfl, by decide, gt_1 87 rfl rfl⟩
theorem fl_X4_36 : FL RX4 36 4 4 := ⟨_, rfl, by decide, gt_1 148 rfl rfl⟩
theorem fl_X4_136 : FL RX4 136 3 5 := ⟨_, rfl, by decide, gt_1 91 rfl rfl⟩
theorem fl_X4_40 : FL RX4 40 4 5 := ⟨_, rfl, by decide, gt_1 149 rfl rfl⟩
theorem fl_X4_43 : FL RX4 43 4 6 := ⟨_, rfl, by decide, gt_1 150 rfl rfl⟩
theorem fl_X5_13 : FL RX5 13 5 0 := ⟨_, rfl, by decide, gt_1 200 rfl rfl⟩
theorem fl_X5_19 : FL RX5 19 5 1 := ⟨_, rfl, by decide, gt_1 201 rfl rfl⟩
theorem fl_X5_26 : FL RX5 26 5 3 := ⟨_, rfl, by decide, gt_1 204 rfl rfl⟩
theorem fl_X5_22 : FL RX5 22 5 2 := ⟨_, rfl, by decide, gt_1 202 rfl rfl⟩
theorem fl_X6_15 : FL RX6 15 6 1 := ⟨_, rfl, by decide, gt_2 119 rfl rfl⟩
theorem fl_X6_9 : FL RX6 9 6 0 := ⟨_, rfl, by decide, gt_2 118 rfl rfl⟩
theorem fl_X6_28 : FL RX6 28 6 2 := ⟨_, rfl, by decide, gt_2 120 rfl rfl⟩
theorem fl_X7_42 : FL RX7 42 1 2 := ⟨_, rfl, by decide, gt_1 222 rfl rfl⟩
theorem fl_X7_49 : FL RX7 49 1 3 := ⟨_, rfl, by decide, gt_1 225 rfl rfl⟩
theorem fl_X7_48 : FL RX7 48 7 2 := ⟨_, rfl, by decide, gt_2 8 rfl rfl⟩
theorem fl_X7_53 : FL RX7 53 5 3 := ⟨_, rfl, by decide, gt_1 205 rfl rfl⟩
theorem fl_X7_21 : FL RX7 21 7 8 := ⟨_, rfl, by decide, gt_2 15 rfl rfl⟩
theorem fl_X7_24 : FL RX7 24 7 9 := ⟨_, rfl, by decide, gt_2 17 rfl rfl⟩
theorem fl_X7_38 : FL RX7 38 7 4 := ⟨_, rfl, by decide, gt_2 10 rfl rfl⟩
theorem fl_X7_27 : FL RX7 27 7 10 := ⟨_, rfl, by decide, gt_2 18 rfl rfl⟩
theorem fl_X7_52 : FL RX7 52 7 3 := ⟨_, rfl, by decide, gt_2 9 rfl rfl⟩
theorem fl_X7_9 : FL RX7 9 7 5 := ⟨_, rfl, by decide, gt_2 11 rfl rfl⟩
theorem fl_X7_30 : FL RX7 30 7 0 := ⟨_, rfl, by decide, gt_2 6 rfl rfl⟩
theorem fl_X7_78 : FL RX7 78 3 9 := ⟨_, rfl, by decide, gt_1 105 rfl rfl⟩
theorem fl_X7_15 : FL RX7 15 7 6 := ⟨_, rfl, by decide, gt_2 12 rfl rfl⟩
theorem fl_X7_34 : FL RX7 34 7 1 := ⟨_, rfl, by decide, gt_2 7 rfl rfl⟩
theorem fl_X7_18 : FL RX7 18 7 7 := ⟨_, rfl, by decide, gt_2 14 rfl rfl⟩
theorem fl_X7_109 : FL RX7 109 3 10 := ⟨_, rfl, by decide, gt_1 111 rfl rfl⟩
theorem fl_X7_112 : FL RX7 112 7 11 := ⟨_, rfl, by decide, gt_2 20 rfl rfl⟩
theorem fl_X8_15 : FL RX8 15 8 1 := ⟨_, rfl, by decide, gt_1 36 rfl rfl⟩
theorem fl_X8_9 : FL RX8 9 8 0 := ⟨_, rfl, by decide, gt_1 35 rfl rfl⟩
theorem fl_X8_19 : FL RX8 19 8 2 := ⟨_, rfl, by decide, gt_1 39 rfl rfl⟩
theorem fl_X8_26 : FL RX8 26 8 4 := ⟨_, rfl, by decide, gt_1 43 rfl rfl⟩
theorem fl_X8_33 : FL RX8 33 8 3 := ⟨_, rfl, by decide, gt_1 41 rfl rfl⟩
theorem fl_X8_36 : FL RX8 36 8 5 := ⟨_, rfl, by decide, gt_1 45 rfl rfl⟩
theorem fl_X9_9 : FL RX9 9 9 2 := ⟨_, rfl, by decide, gt_2 84 rfl rfl⟩
theorem fl_X9_15 : FL RX9 15 9 0 := ⟨_, rfl, by decide, gt_2 82 rfl rfl⟩
theorem fl_X9_29 : FL RX9 29 3 6 := ⟨_, rfl, by decide, gt_1 92 rfl rfl⟩
theorem fl_X9_19 : FL RX9 19 9 1 := ⟨_, rfl, by decide, gt_2 83 rfl rfl⟩
theorem fl_X9_41 : FL RX9 41 2 1 := ⟨_, rfl, by decide, gt_1 174 rfl rfl⟩
theorem fl_X9_54 : FL RX9 54 3 8 := ⟨_, rfl, by decide, gt_1 101 rfl rfl⟩
theorem fl_X9_57 : FL RX9 57 3 2 := ⟨_, rfl, by decide, gt_1 81 rfl rfl⟩
theorem fl_X9_64 : FL RX9 64 3 3 := ⟨_, rfl, by decide, gt_1 84 rfl rfl⟩
theorem fl_X9_70 : FL RX9 70 2 2 := ⟨_, rfl, by decide, gt_1 176 rfl rfl⟩
theorem fl_X10_11 : FL RX10 11 10 1 := ⟨_, rfl, by decide, gt_2 100 rfl rfl⟩
theorem fl_X10_15 : FL RX10 15 10 2 := ⟨_, rfl, by decide, gt_2 102 rfl rfl⟩
theorem fl_X10_18 : FL RX10 18 10 0 := ⟨_, rfl, by decide, gt_2 99 rfl rfl⟩
theorem fl_X10_34 : FL RX10 34 3 5 := ⟨_, rfl, by decide, gt_1 89 rfl rfl⟩
theorem fl_X11_10 : FL RX11 10 11 0 := ⟨_, rfl, by decide, gt_2 129 rfl rfl⟩
theorem fl_X11_23 : FL RX11 23 11 2 := ⟨_, rfl, by decide, gt_2 131 rfl rfl⟩
theorem fl_X11_19 : FL RX11 19 11 1 := ⟨_, rfl, by decide, gt_2 130 rfl rfl⟩
theorem fl_X11_40 : FL RX11 40 11 4 := ⟨_, rfl, by decide, gt_2 133 rfl rfl⟩
theorem fl_X11_47 : FL RX11 47 11 5 := ⟨_, rfl, by decide, gt_2 134 rfl rfl⟩
theorem fl_X11_51 : FL RX11 51 11 6 := ⟨_, rfl, by decide, gt_2 135 rfl rfl⟩
theorem fl_X11_91 : FL RX11 91 11 11 := ⟨_, rfl, by decide, gt_2 140 rfl rfl⟩
theorem fl_X11_100 : FL RX11 100 8 1 := ⟨_, rfl, by decide, gt_1 37 rfl rfl⟩
theorem fl_X11_31 : FL RX11 31 11 3 := ⟨_, rfl, by decide, gt_2 132 rfl rfl⟩
theorem fl_X11_112 : FL RX11 112 4 2 := ⟨_, rfl, by decide, gt_1 145 rfl rfl⟩
theorem fl_X11_115 : FL RX11 115 11 12 := ⟨_, rfl, by decide, gt_2 141 rfl rfl⟩
theorem fl_X11_116 : FL RX11 116 4 3 := ⟨_, rfl, by decide, gt_1 147 rfl rfl⟩
theorem fl_X11_129 : FL RX11 129 3 6 := ⟨_, rfl, by decide, gt_1 95 rfl rfl⟩
theorem fl_X11_132 : FL RX11 132 3 7 := ⟨_, rfl, by decide, gt_1 98 rfl rfl⟩
theorem fl_X11_135 : FL RX11 135 3 8 := ⟨_, rfl, by decide, gt_1 102 rfl rfl⟩
theorem fl_X11_138 : FL RX11 138 3 5 := ⟨_, rfl, by decide, gt_1 90 rfl rfl⟩
theorem fl_X11_142 : FL RX11 142 3 9 := ⟨_, rfl, by decide, gt_1 106 rfl rfl⟩
theorem fl_X11_145 : FL RX11 145 3 10 := ⟨_, rfl, by decide, gt_1 109 rfl rfl⟩
theorem fl_X11_152 : FL RX11 152 3 1 := ⟨_, rfl, by decide, gt_1 78 rfl rfl⟩
theorem fl_X11_176 : FL RX11 176 1 1 := ⟨_, rfl, by decide, gt_1 219 rfl rfl⟩
theorem fl_X11_189 : FL RX11 189 5 3 := ⟨_, rfl, by decide, gt_1 207 rfl rfl⟩
theorem fl_X11_200 : FL RX11 200 2 2 := ⟨_, rfl, by decide, gt_1 177 rfl rfl⟩
theorem fl_X11_203 : FL RX11 203 1 2 := ⟨_, rfl, by decide, gt_1 223 rfl rfl⟩
theorem fl_X11_60 : FL RX11 60 11 7 := ⟨_, rfl, by decide, gt_2 136 rfl rfl⟩
theorem fl_X11_218 : FL RX11 218 7 8 := ⟨_, rfl, by decide, gt_2 16 rfl rfl⟩
theorem fl_X11_221 : FL RX11 221 7 10 := ⟨_, rfl, by decide, gt_2 19 rfl rfl⟩
theorem fl_X11_228 : FL RX11 228 1 3 := ⟨_, rfl, by decide, gt_1 226 rfl rfl⟩
theorem fl_X11_234 : FL RX11 234 7 6 := ⟨_, rfl, by decide, gt_2 13 rfl rfl⟩
theorem fl_X11_69 : FL RX11 69 11 8 := ⟨_, rfl, by decide, gt_2 137 rfl rfl⟩
theorem fl_X11_256 : FL RX11 256 0 5 := ⟨_, rfl, by decide, gt_2 58 rfl rfl⟩
theorem fl_X11_259 : FL RX11 259 0 6 := ⟨_, rfl, by decide, gt_2 60 rfl rfl⟩
theorem fl_X11_78 : FL RX11 78 11 9 := ⟨_, rfl, by decide, gt_2 138 rfl rfl⟩
theorem fl_X11_281 : FL RX11 281 9 2 := ⟨_, rfl, by decide, gt_2 85 rfl rfl⟩
theorem fl_X11_85 : FL RX11 85 11 10 := ⟨_, rfl, by decide, gt_2 139 rfl rfl⟩
theorem fl_X11_295 : FL RX11 295 10 1 := ⟨_, rfl, by decide, gt_2 101 rfl rfl⟩
theorem fl_X11_125 : FL RX11 125 1 4 := ⟨_, rfl, by decide, gt_1 227 rfl rfl⟩
theorem fl_X11_340 : FL RX11 340 11 13 := ⟨_, rfl, by decide, gt_2 142 rfl rfl⟩
theorem fl_X11_343 : FL RX11 343 6 2 := ⟨_, rfl, by decide, gt_2 121 rfl rfl⟩
theorem fl_X12_87 : FL RX12 87 12 1 := ⟨_, rfl, by decide, gt_5 60 rfl rfl⟩
theorem fl_X12_7 : FL RX12 7 12 0 := ⟨_, rfl, by decide, gt_5 59 rfl rfl⟩
theorem fl_X12_95 : FL RX12 95 12 3 := ⟨_, rfl, by decide, gt_5 62 rfl rfl⟩
theorem fl_X12_98 : FL RX12 98 12 6 := ⟨_, rfl, by decide, gt_5 65 rfl rfl⟩
theorem fl_X12_104 : FL RX12 104 12 7 := ⟨_, rfl, by decide, gt_5 66 rfl rfl⟩
theorem fl_X12_107 : FL RX12 107 12 5 := ⟨_, rfl, by decide, gt_5 64 rfl rfl⟩
theorem fl_X12_13 : FL RX12 13 12 9 := ⟨_, rfl, by decide, gt_5 68 rfl rfl⟩
theorem fl_X12_16 : FL RX12 16 12 10 := ⟨_, rfl, by decide, gt_5 69 rfl rfl⟩
theorem fl_X12_114 : FL RX12 114 12 8 := ⟨_, rfl, by decide, gt_5 67 rfl rfl⟩
theorem fl_X12_34 : FL RX12 34 12 16 := ⟨_, rfl, by decide, gt_5 75 rfl rfl⟩
theorem fl_X12_40 : FL RX12 40 12 18 := ⟨_, rfl, by decide, gt_5 77 rfl rfl⟩
theorem fl_X12_43 : FL RX12 43 12 19 := ⟨_, rfl, by decide, gt_5 78 rfl rfl⟩
theorem fl_X12_139 : FL RX12 139 12 20 := ⟨_, rfl, by decide, gt_5 79 rfl rfl⟩
theorem fl_X12_37 : FL RX12 37 12 17 := ⟨_, rfl, by decide, gt_5 76 rfl rfl⟩
theorem fl_X12_19 : FL RX12 19 12 11 := ⟨_, rfl, by decide, gt_5 70 rfl rfl⟩
theorem fl_X12_101 : FL RX12 101 12 4 := ⟨_, rfl, by decide, gt_5 63 rfl rfl⟩
theorem fl_X12_22 : FL RX12 22 12 12 := ⟨_, rfl, by decide, gt_5 71 rfl rfl⟩
theorem fl_X12_25 : FL RX12 25 12 13 := ⟨_, rfl, by decide, gt_5 72 rfl rfl⟩
theorem fl_X12_28 : FL RX12 28 12 14 := ⟨_, rfl, by decide, gt_5 73 rfl rfl⟩
theorem fl_X12_31 : FL RX12 31 12 15 := ⟨_, rfl, by decide, gt_5 74 rfl rfl⟩
theorem fl_X12_49 : FL RX12 49 12 22 := ⟨_, rfl, by decide, gt_5 81 rfl rfl⟩
theorem fl_X12_75 : FL RX12 75 12 33 := ⟨_, rfl, by decide, gt_5 92 rfl rfl⟩
theorem fl_X12_160 : FL RX12 160 12 2 := ⟨_, rfl, by decide, gt_5 61 rfl rfl⟩
theorem fl_X12_46 : FL RX12 46 12 21 := ⟨_, rfl, by decide, gt_5 80 rfl rfl⟩
theorem fl_X12_55 : FL RX12 55 12 24 := ⟨_, rfl, by decide, gt_5 83 rfl rfl⟩
theorem fl_X12_52 : FL RX12 52 12 23 := ⟨_, rfl, by decide, gt_5 82 rfl rfl⟩
theorem fl_X12_58 : FL RX12 58 12 25 := ⟨_, rfl, by decide, gt_5 84 rfl rfl⟩
theorem fl_X12_62 : FL RX12 62 12 26 := ⟨_, rfl, by decide, gt_5 85 rfl rfl⟩
theorem fl_X12_65 : FL RX12 65 12 27 := ⟨_, rfl, by decide, gt_5 86 rfl rfl⟩
theorem fl_X12_258 : FL RX12 258 12 28 := ⟨_, rfl, by decide, gt_5 87 rfl rfl⟩
theorem fl_X12_261 : FL RX12 261 12 29 := ⟨_, rfl, by decide, gt_5 88 rfl rfl⟩
theorem fl_X12_68 : FL RX12 68 12 30 := ⟨_, rfl, by decide, gt_5 89 rfl rfl⟩
theorem fl_X12_72 : FL RX12 72 12 31 := ⟨_, rfl, by decide, gt_5 90 rfl rfl⟩
theorem fl_X12_278 : FL RX12 278 12 32 := ⟨_, rfl, by decide, gt_5 91 rfl rfl⟩
theorem fl_X12_78 : FL RX12 78 12 34 := ⟨_, rfl, by decide, gt_5 93 rfl rfl⟩
theorem fl_X12_81 : FL RX12 81 12 35 := ⟨_, rfl, by decide, gt_5 94 rfl rfl⟩
theorem fl_X12_84 : FL RX12 84 12 36 := ⟨_, rfl, by decide, gt_5 95 rfl rfl⟩
theorem fl_X12_305 : FL RX12 305 12 37 := ⟨_, rfl, by decide, gt_5 96 rfl rfl⟩
theorem ff_X0_9 : FF RX0 9 0 2 (.array .int) := ⟨_, rfl, by decide, gt_2 54 rfl rfl, rfl, by decide +kernel, rfl⟩
theorem ff_X0_15 : FF RX0 15 0 3 (.array .int) := ⟨_, rfl, by decide, gt_2 55 rfl rfl, rfl, by decide +kernel, rfl⟩
theorem ff_X0_18 : FF RX0 18 0 4 (.array .int) := ⟨_, rfl, by decide, gt_2 56 rfl rfl, rfl, by decide +kernel, rfl⟩
theorem ff_X0_21 : FF RX0 21 0 0 (.object "LatePrices$News") := ⟨_, rfl, by decide, gt_2 52 rfl rfl, rfl, by decide +kernel, rfl⟩
theorem ff_X0_31 : FF RX0 31 0 1 (.object "LatePrices$Rows") := ⟨_, rfl, by decide, gt_2 53 rfl rfl, rfl, by decide +kernel, rfl⟩
theorem fp_X0_60 : FP RX0 60 0 5 .int := ⟨_, rfl, by decide, gt_2 57 rfl rfl, rfl, by decide +kernel, trivial⟩
theorem fp_X0_63 : FP RX0 63 0 6 .int := ⟨_, rfl, by decide, gt_2 59 rfl rfl, rfl, by decide +kernel, trivial⟩
theorem ff_X1_14 : FF RX1 14 1 1 (.object "LatePrices$Rows") := ⟨_, rfl, by decide, gt_1 218 rfl rfl, rfl, by decide +kernel, rfl⟩
theorem ff_X1_20 : FF RX1 20 1 2 (.object "LatePrices$Rows") := ⟨_, rfl, by decide, gt_1 220 rfl rfl, rfl, by decide +kernel, rfl⟩
theorem ff_X1_23 : FF RX1 23 1 3 (.object "LatePrices$Rows") := ⟨_, rfl, by decide, gt_1 224 rfl rfl, rfl, by decide +kernel, rfl⟩
theorem ff_X1_26 : FF RX1 26 1 0 (.object "LatePrices$Plan") := ⟨_, rfl, by decide, gt_1 217 rfl rfl, rfl, by decide +kernel, rfl⟩
theorem fp_X1_30 : FP RX1 30 5 3 .int := ⟨_, rfl, by decide, gt_1 203 rfl rfl, rfl, by decide +kernel, trivial⟩
theorem ff_X2_9 : FF RX2 9 2 1 (.array .int) := ⟨_, rfl, by decide, gt_1 173 rfl rfl, rfl, by decide +kernel, rfl⟩
theorem ff_X2_15 : FF RX2 15 2 2 (.array .int) := ⟨_, rfl, by decide, gt_1 175 rfl rfl, rfl, by decide +kernel, rfl⟩
theorem ff_X2_18 : FF RX2 18 2 0 (.object "LatePrices$Plan") := ⟨_, rfl, by decide, gt_1 172 rfl rfl, rfl, by decide +kernel, rfl⟩
theorem ff_X3_9 : FF RX3 9 3 0 (.array .int) := ⟨_, rfl, by decide, gt_1 73 rfl rfl, rfl, by decide +kernel, rfl⟩
theorem ff_X3_15 : FF RX3 15 3 1 (.array .int) := ⟨_, rfl, by decide, gt_1 76 rfl rfl, rfl, by decide +kernel, rfl⟩
theorem ff_X3_18 : FF RX3 18 3 2 (.array .int) := ⟨_, rfl, by decide, gt_1 80 rfl rfl, rfl, by decide +kernel, rfl⟩
theorem ff_X3_21 : FF RX3 21 3 3 (.array .int) := ⟨_, rfl, by decide, gt_1 83 rfl rfl, rfl, by decide +kernel, rfl⟩
theorem ff_X3_24 : FF RX3 24 3 4 (.array .int) := ⟨_, rfl, by decide, gt_1 86 rfl rfl, rfl, by decide +kernel, rfl⟩
theorem ff_X3_27 : FF RX3 27 3 5 (.array .int) := ⟨_, rfl, by decide, gt_1 88 rfl rfl, rfl, by decide +kernel, rfl⟩
theorem fp_X3_39 : FP RX3 39 3 6 .int := ⟨_, rfl, by decide, gt_1 93 rfl rfl, rfl, by decide +kernel, trivial⟩
theorem fp_X3_43 : FP RX3 43 3 7 .int := ⟨_, rfl, by decide, gt_1 97 rfl rfl, rfl, by decide +kernel, trivial⟩
theorem fp_X3_46 : FP RX3 46 3 8 .int := ⟨_, rfl, by decide, gt_1 100 rfl rfl, rfl, by decide +kernel, trivial⟩
theorem fp_X3_49 : FP RX3 49 3 9 .int := ⟨_, rfl, by decide, gt_1 104 rfl rfl, rfl, by decide +kernel, trivial⟩
theorem fp_X3_52 : FP RX3 52 3 10 .int := ⟨_, rfl, by decide, gt_1 108 rfl rfl, rfl, by decide +kernel, trivial⟩
theorem ff_X4_9 : FF RX4 9 4 0 (.object "LatePrices$Tape") := ⟨_, rfl, by decide, gt_1 142 rfl rfl, rfl, by decide +kernel, rfl⟩
theorem ff_X4_15 : FF RX4 15 4 1 (.object "LatePrices$Plan") := ⟨_, rfl, by decide, gt_1 143 rfl rfl, rfl, by decide +kernel, rfl⟩
theorem fp_X4_24 : FP RX4 24 8 2 .int := ⟨_, rfl, by decide, gt_1 38 rfl rfl, rfl, by decide +kernel, trivial⟩
theorem fp_X4_30 : FP RX4 30 4 2 .int := ⟨_, rfl, by decide, gt_1 144 rfl rfl, rfl, by decide +kernel, trivial⟩
theorem fp_X4_33 : FP RX4 33 4 3 .int := ⟨_, rfl, by decide, gt_1 146 rfl rfl, rfl, by decide +kernel, trivial⟩
theorem fp_X4_36 : FP RX4 36 4 4 .boolean := ⟨_, rfl, by decide, gt_1 148 rfl rfl, rfl, by decide +kernel, trivial⟩
theorem fp_X4_40 : FP RX4 40 4 5 .boolean := ⟨_, rfl, by decide, gt_1 149 rfl rfl, rfl, by decide +kernel, trivial⟩
theorem fp_X4_43 : FP RX4 43 4 6 .boolean := ⟨_, rfl, by decide, gt_1 150 rfl rfl, rfl, by decide +kernel, trivial⟩
theorem fp_X4_103 : FP RX4 103 3 6 .int := ⟨_, rfl, by decide, gt_1 96 rfl rfl, rfl, by decide +kernel, trivial⟩
theorem fp_X4_121 : FP RX4 121 3 7 .int := ⟨_, rfl, by decide, gt_1 99 rfl rfl, rfl, by decide +kernel, trivial⟩
theorem fp_X4_124 : FP RX4 124 3 8 .int := ⟨_, rfl, by decide, gt_1 103 rfl rfl, rfl, by decide +kernel, trivial⟩
theorem fp_X4_144 : FP RX4 144 3 9 .int := ⟨_, rfl, by decide, gt_1 107 rfl rfl, rfl, by decide +kernel, trivial⟩
theorem fp_X4_151 : FP RX4 151 3 10 .int := ⟨_, rfl, by decide, gt_1 110 rfl rfl, rfl, by decide +kernel, trivial⟩
theorem ff_X5_13 : FF RX5 13 5 0 .int := ⟨_, rfl, by decide, gt_1 200 rfl rfl, rfl, by decide +kernel, rfl⟩
theorem ff_X5_19 : FF RX5 19 5 1 .int := ⟨_, rfl, by decide, gt_1 201 rfl rfl, rfl, by decide +kernel, rfl⟩
theorem ff_X5_22 : FF RX5 22 5 2 (.array .int) := ⟨_, rfl, by decide, gt_1 202 rfl rfl, rfl, by decide +kernel, rfl⟩
theorem fp_X5_26 : FP RX5 26 5 3 .int := ⟨_, rfl, by decide, gt_1 204 rfl rfl, rfl, by decide +kernel, trivial⟩
theorem ff_X6_9 : FF RX6 9 6 0 (.array .int) := ⟨_, rfl, by decide, gt_2 118 rfl rfl, rfl, by decide +kernel, rfl⟩
theorem fp_X6_15 : FP RX6 15 6 1 .int := ⟨_, rfl, by decide, gt_2 119 rfl rfl, rfl, by decide +kernel, trivial⟩
theorem fp_X6_28 : FP RX6 28 6 2 .int := ⟨_, rfl, by decide, gt_2 120 rfl rfl, rfl, by decide +kernel, trivial⟩
theorem ff_X7_9 : FF RX7 9 7 5 (.array .int) := ⟨_, rfl, by decide, gt_2 11 rfl rfl, rfl, by decide +kernel, rfl⟩
theorem ff_X7_15 : FF RX7 15 7 6 (.array .int) := ⟨_, rfl, by decide, gt_2 12 rfl rfl, rfl, by decide +kernel, rfl⟩
theorem ff_X7_18 : FF RX7 18 7 7 (.array .int) := ⟨_, rfl, by decide, gt_2 14 rfl rfl, rfl, by decide +kernel, rfl⟩
theorem ff_X7_21 : FF RX7 21 7 8 (.array .int) := ⟨_, rfl, by decide, gt_2 15 rfl rfl, rfl, by decide +kernel, rfl⟩
theorem ff_X7_24 : FF RX7 24 7 9 (.array .int) := ⟨_, rfl, by decide, gt_2 17 rfl rfl, rfl, by decide +kernel, rfl⟩
theorem ff_X7_27 : FF RX7 27 7 10 (.array .int) := ⟨_, rfl, by decide, gt_2 18 rfl rfl, rfl, by decide +kernel, rfl⟩
theorem ff_X7_30 : FF RX7 30 7 0 (.object "LatePrices$Plan") := ⟨_, rfl, by decide, gt_2 6 rfl rfl, rfl, by decide +kernel, rfl⟩
theorem ff_X7_34 : FF RX7 34 7 1 (.object "LatePrices$News") := ⟨_, rfl, by decide, gt_2 7 rfl rfl, rfl, by decide +kernel, rfl⟩
theorem ff_X7_38 : FF RX7 38 7 4 (.object "LatePrices$Ledger") := ⟨_, rfl, by decide, gt_2 10 rfl rfl, rfl, by decide +kernel, rfl⟩
theorem ff_X7_48 : FF RX7 48 7 2 (.object "LatePrices$Rows") := ⟨_, rfl, by decide, gt_2 8 rfl rfl, rfl, by decide +kernel, rfl⟩
theorem ff_X7_52 : FF RX7 52 7 3 (.object "LatePrices$Rows") := ⟨_, rfl, by decide, gt_2 9 rfl rfl, rfl, by decide +kernel, rfl⟩
theorem fp_X7_112 : FP RX7 112 7 11 .int := ⟨_, rfl, by decide, gt_2 20 rfl rfl, rfl, by decide +kernel, trivial⟩
theorem ff_X8_9 : FF RX8 9 8 0 (.array .byte) := ⟨_, rfl, by decide, gt_1 35 rfl rfl, rfl, by decide +kernel, rfl⟩
theorem fp_X8_15 : FP RX8 15 8 1 .int := ⟨_, rfl, by decide, gt_1 36 rfl rfl, rfl, by decide +kernel, trivial⟩
theorem fp_X8_26 : FP RX8 26 8 4 .int := ⟨_, rfl, by decide, gt_1 43 rfl rfl, rfl, by decide +kernel, trivial⟩
theorem fp_X8_33 : FP RX8 33 8 3 .int := ⟨_, rfl, by decide, gt_1 41 rfl rfl, rfl, by decide +kernel, trivial⟩
theorem fp_X8_19 : FP RX8 19 8 2 .int := ⟨_, rfl, by decide, gt_1 39 rfl rfl, rfl, by decide +kernel, trivial⟩
theorem fp_X8_36 : FP RX8 36 8 5 .int := ⟨_, rfl, by decide, gt_1 45 rfl rfl, rfl, by decide +kernel, trivial⟩
theorem ff_X9_9 : FF RX9 9 9 2 (.array .int) := ⟨_, rfl, by decide, gt_2 84 rfl rfl, rfl, by decide +kernel, rfl⟩
theorem ff_X9_15 : FF RX9 15 9 0 (.object "LatePrices$Plan") := ⟨_, rfl, by decide, gt_2 82 rfl rfl, rfl, by decide +kernel, rfl⟩
theorem ff_X9_19 : FF RX9 19 9 1 (.object "LatePrices$News") := ⟨_, rfl, by decide, gt_2 83 rfl rfl, rfl, by decide +kernel, rfl⟩
theorem ff_X10_11 : FF RX10 11 10 1 (.array .long) := ⟨_, rfl, by decide, gt_2 100 rfl rfl, rfl, by decide +kernel, rfl⟩
theorem ff_X10_15 : FF RX10 15 10 2 (.array .long) := ⟨_, rfl, by decide, gt_2 102 rfl rfl, rfl, by decide +kernel, rfl⟩
theorem ff_X10_18 : FF RX10 18 10 0 (.object "LatePrices$Plan") := ⟨_, rfl, by decide, gt_2 99 rfl rfl, rfl, by decide +kernel, rfl⟩
theorem ff_X11_10 : FF RX11 10 11 0 (.object "LatePrices$Tape") := ⟨_, rfl, by decide, gt_2 129 rfl rfl, rfl, by decide +kernel, rfl⟩
theorem ff_X11_19 : FF RX11 19 11 1 (.object "LatePrices$Plan") := ⟨_, rfl, by decide, gt_2 130 rfl rfl, rfl, by decide +kernel, rfl⟩
theorem ff_X11_23 : FF RX11 23 11 2 (.object "LatePrices$Plan") := ⟨_, rfl, by decide, gt_2 131 rfl rfl, rfl, by decide +kernel, rfl⟩
theorem ff_X11_31 : FF RX11 31 11 3 (.object "LatePrices$Reader") := ⟨_, rfl, by decide, gt_2 132 rfl rfl, rfl, by decide +kernel, rfl⟩
theorem ff_X11_40 : FF RX11 40 11 4 (.object "LatePrices$News") := ⟨_, rfl, by decide, gt_2 133 rfl rfl, rfl, by decide +kernel, rfl⟩
theorem ff_X11_47 : FF RX11 47 11 5 (.object "LatePrices$Ledger") := ⟨_, rfl, by decide, gt_2 134 rfl rfl, rfl, by decide +kernel, rfl⟩
theorem ff_X11_51 : FF RX11 51 11 6 (.array (.object "LatePrices$Ledger")) := ⟨_, rfl, by decide, gt_2 135 rfl rfl, rfl, by decide +kernel, rfl⟩
theorem ff_X11_60 : FF RX11 60 11 7 (.object "LatePrices$Strikes") := ⟨_, rfl, by decide, gt_2 136 rfl rfl, rfl, by decide +kernel, rfl⟩
theorem ff_X11_69 : FF RX11 69 11 8 (.object "LatePrices$Gains") := ⟨_, rfl, by decide, gt_2 137 rfl rfl, rfl, by decide +kernel, rfl⟩
theorem ff_X11_78 : FF RX11 78 11 9 (.object "LatePrices$Waits") := ⟨_, rfl, by decide, gt_2 138 rfl rfl, rfl, by decide +kernel, rfl⟩
theorem ff_X11_85 : FF RX11 85 11 10 (.object "LatePrices$Worth") := ⟨_, rfl, by decide, gt_2 139 rfl rfl, rfl, by decide +kernel, rfl⟩
theorem ff_X11_91 : FF RX11 91 11 11 (.array (.object "LatePrices$Sheet")) := ⟨_, rfl, by decide, gt_2 140 rfl rfl, rfl, by decide +kernel, rfl⟩
theorem fp_X11_100 : FP RX11 100 8 1 .int := ⟨_, rfl, by decide, gt_1 37 rfl rfl, rfl, by decide +kernel, trivial⟩
theorem fp_X11_115 : FP RX11 115 11 12 .int := ⟨_, rfl, by decide, gt_2 141 rfl rfl, rfl, by decide +kernel, trivial⟩
theorem fp_X11_125 : FP RX11 125 1 4 .boolean := ⟨_, rfl, by decide, gt_1 227 rfl rfl, rfl, by decide +kernel, trivial⟩
theorem fp_X11_189 : FP RX11 189 5 3 .int := ⟨_, rfl, by decide, gt_1 207 rfl rfl, rfl, by decide +kernel, trivial⟩
theorem fp_X11_340 : FP RX11 340 11 13 .int := ⟨_, rfl, by decide, gt_2 142 rfl rfl, rfl, by decide +kernel, trivial⟩
theorem ff_X12_7 : FF RX12 7 12 0 (.array .int) := ⟨_, rfl, by decide, gt_5 59 rfl rfl, rfl, by decide +kernel, rfl⟩
theorem ff_X12_13 : FF RX12 13 12 9 (.array .int) := ⟨_, rfl, by decide, gt_5 68 rfl rfl, rfl, by decide +kernel, rfl⟩
theorem ff_X12_16 : FF RX12 16 12 10 (.array .int) := ⟨_, rfl, by decide, gt_5 69 rfl rfl, rfl, by decide +kernel, rfl⟩
theorem ff_X12_19 : FF RX12 19 12 11 (.array .int) := ⟨_, rfl, by decide, gt_5 70 rfl rfl, rfl, by decide +kernel, rfl⟩
theorem ff_X12_22 : FF RX12 22 12 12 (.array .int) := ⟨_, rfl, by decide, gt_5 71 rfl rfl, rfl, by decide +kernel, rfl⟩
theorem ff_X12_25 : FF RX12 25 12 13 (.array .int) := ⟨_, rfl, by decide, gt_5 72 rfl rfl, rfl, by decide +kernel, rfl⟩
theorem ff_X12_28 : FF RX12 28 12 14 (.array .int) := ⟨_, rfl, by decide, gt_5 73 rfl rfl, rfl, by decide +kernel, rfl⟩
theorem ff_X12_31 : FF RX12 31 12 15 (.array .int) := ⟨_, rfl, by decide, gt_5 74 rfl rfl, rfl, by decide +kernel, rfl⟩
theorem ff_X12_34 : FF RX12 34 12 16 (.array .int) := ⟨_, rfl, by decide, gt_5 75 rfl rfl, rfl, by decide +kernel, rfl⟩
theorem ff_X12_37 : FF RX12 37 12 17 (.array .int) := ⟨_, rfl, by decide, gt_5 76 rfl rfl, rfl, by decide +kernel, rfl⟩
theorem ff_X12_40 : FF RX12 40 12 18 (.array .int) := ⟨_, rfl, by decide, gt_5 77 rfl rfl, rfl, by decide +kernel, rfl⟩
theorem ff_X12_43 : FF RX12 43 12 19 (.array .int) := ⟨_, rfl, by decide, gt_5 78 rfl rfl, rfl, by decide +kernel, rfl⟩
theorem ff_X12_46 : FF RX12 46 12 21 (.array .int) := ⟨_, rfl, by decide, gt_5 80 rfl rfl, rfl, by decide +kernel, rfl⟩
theorem ff_X12_49 : FF RX12 49 12 22 (.array .int) := ⟨_, rfl, by decide, gt_5 81 rfl rfl, rfl, by decide +kernel, rfl⟩
theorem ff_X12_52 : FF RX12 52 12 23 (.array .int) := ⟨_, rfl, by decide, gt_5 82 rfl rfl, rfl, by decide +kernel, rfl⟩
theorem ff_X12_55 : FF RX12 55 12 24 (.array .int) := ⟨_, rfl, by decide, gt_5 83 rfl rfl, rfl, by decide +kernel, rfl⟩
theorem ff_X12_58 : FF RX12 58 12 25 (.array .boolean) := ⟨_, rfl, by decide, gt_5 84 rfl rfl, rfl, by decide +kernel, rfl⟩
theorem ff_X12_62 : FF RX12 62 12 26 (.array .boolean) := ⟨_, rfl, by decide, gt_5 85 rfl rfl, rfl, by decide +kernel, rfl⟩
theorem ff_X12_65 : FF RX12 65 12 27 (.array .int) := ⟨_, rfl, by decide, gt_5 86 rfl rfl, rfl, by decide +kernel, rfl⟩
theorem ff_X12_68 : FF RX12 68 12 30 (.array .long) := ⟨_, rfl, by decide, gt_5 89 rfl rfl, rfl, by decide +kernel, rfl⟩
theorem ff_X12_72 : FF RX12 72 12 31 (.array .long) := ⟨_, rfl, by decide, gt_5 90 rfl rfl, rfl, by decide +kernel, rfl⟩
theorem ff_X12_75 : FF RX12 75 12 33 (.array .boolean) := ⟨_, rfl, by decide, gt_5 92 rfl rfl, rfl, by decide +kernel, rfl⟩
theorem ff_X12_78 : FF RX12 78 12 34 (.array .int) := ⟨_, rfl, by decide, gt_5 93 rfl rfl, rfl, by decide +kernel, rfl⟩
theorem ff_X12_81 : FF RX12 81 12 35 (.array .int) := ⟨_, rfl, by decide, gt_5 94 rfl rfl, rfl, by decide +kernel, rfl⟩
theorem ff_X12_84 : FF RX12 84 12 36 (.array .int) := ⟨_, rfl, by decide, gt_5 95 rfl rfl, rfl, by decide +kernel, rfl⟩
theorem fp_X12_87 : FP RX12 87 12 1 .int := ⟨_, rfl, by decide, gt_5 60 rfl rfl, rfl, by decide +kernel, trivial⟩
theorem fp_X12_95 : FP RX12 95 12 3 .int := ⟨_, rfl, by decide, gt_5 62 rfl rfl, rfl, by decide +kernel, trivial⟩
theorem fp_X12_101 : FP RX12 101 12 4 .int := ⟨_, rfl, by decide, gt_5 63 rfl rfl, rfl, by decide +kernel, trivial⟩
theorem fp_X12_107 : FP RX12 107 12 5 .int := ⟨_, rfl, by decide, gt_5 64 rfl rfl, rfl, by decide +kernel, trivial⟩
theorem fp_X12_98 : FP RX12 98 12 6 .int := ⟨_, rfl, by decide, gt_5 65 rfl rfl, rfl, by decide +kernel, trivial⟩
theorem fp_X12_114 : FP RX12 114 12 8 .int := ⟨_, rfl, by decide, gt_5 67 rfl rfl, rfl, by decide +kernel, trivial⟩
theorem fp_X12_104 : FP RX12 104 12 7 .int := ⟨_, rfl, by decide, gt_5 66 rfl rfl, rfl, by decide +kernel, trivial⟩
theorem fp_X12_139 : FP RX12 139 12 20 .int := ⟨_, rfl, by decide, gt_5 79 rfl rfl, rfl, by decide +kernel, trivial⟩
theorem fp_X12_160 : FP RX12 160 12 2 .int := ⟨_, rfl, by decide, gt_5 61 rfl rfl, rfl, by decide +kernel, trivial⟩
theorem fp_X12_258 : FP RX12 258 12 28 .int := ⟨_, rfl, by decide, gt_5 87 rfl rfl, rfl, by decide +kernel, trivial⟩
theorem fp_X12_261 : FP RX12 261 12 29 .int := ⟨_, rfl, by decide, gt_5 88 rfl rfl, rfl, by decide +kernel, trivial⟩
theorem fp_X12_278 : FP RX12 278 12 32 .long := ⟨_, rfl, by decide, gt_5 91 rfl rfl, rfl, by decide +kernel, trivial⟩
theorem fp_X12_305 : FP RX12 305 12 37 .int := ⟨_, rfl, by decide, gt_5 96 rfl rfl, rfl, by decide +kernel, trivial⟩
theorem oo_X0_3 : Cond.methodLink RX0 3 Lib.objectInit ∈ gtb := gt_2 51 rfl rfl
theorem ov_X0_38 : okV RX0 38 mX5_at := ⟨ok_X5_at, gt_4 81 rfl rfl, gt_3 169 rfl rfl, gt_3 170 rfl rfl⟩
theorem ov_X0_42 : okV RX0 42 mX0_setStretch := ⟨ok_X0_setStretch, gt_4 82 rfl rfl, gt_4 84 rfl rfl, g_mem 27 rfl rfl⟩
theorem ov_X0_46 : okV RX0 46 mX2_arrival := ⟨ok_X2_arrival, gt_4 86 rfl rfl, gt_3 112 rfl rfl, gt_3 113 rfl rfl⟩
theorem om_X0_52 : Cond.methodLink RX0 52 ⟨"java/lang/Math", "min", "(II)I"⟩ ∈ gtb := gt_4 87 rfl rfl
theorem ov_X0_57 : okV RX0 57 mX2_latest := ⟨ok_X2_latest, gt_4 88 rfl rfl, gt_3 144 rfl rfl, gt_3 145 rfl rfl⟩
theorem ov_X0_66 : okV RX0 66 mX0_best := ⟨ok_X0_best, gt_4 93 rfl rfl, gt_4 95 rfl rfl, g_mem 28 rfl rfl⟩
theorem ov_X0_70 : okV RX0 70 mX0_margin := ⟨ok_X0_margin, gt_4 97 rfl rfl, gt_4 99 rfl rfl, g_mem 29 rfl rfl⟩
theorem om_X0_73 : Cond.methodLink RX0 73 ⟨"java/lang/Math", "max", "(II)I"⟩ ∈ gtb := gt_4 109 rfl rfl
theorem oo_X1_3 : Cond.methodLink RX1 3 Lib.objectInit ∈ gtb := gt_1 190 rfl rfl
theorem oi_X1_11 : okI RX1 11 mX5_init := ⟨ok_X5_init, gt_1 193 rfl rfl, gt_1 194 rfl rfl, rfl⟩
theorem ov_X1_34 : okV RX1 34 mX5_become := ⟨ok_X5_become, gt_4 228 rfl rfl, gt_4 229 rfl rfl, gt_4 230 rfl rfl⟩
theorem ov_X1_44 : okV RX1 44 mX5_at := ⟨ok_X5_at, gt_3 168 rfl rfl, gt_3 169 rfl rfl, gt_3 170 rfl rfl⟩
theorem ov_X1_48 : okV RX1 48 mX1_lastUnmoved := ⟨ok_X1_lastUnmoved, gt_3 218 rfl rfl, gt_3 220 rfl rfl, g_mem 18 rfl rfl⟩
theorem om_X1_52 : Cond.methodLink RX1 52 ⟨"java/lang/Math", "min", "(II)I"⟩ ∈ gtb := gt_3 226 rfl rfl
theorem ov_X1_57 : okV RX1 57 mX1_priceAt := ⟨ok_X1_priceAt, gt_3 222 rfl rfl, gt_3 165 rfl rfl, gt_3 166 rfl rfl⟩
theorem om_X1_60 : Cond.methodLink RX1 60 ⟨"java/lang/Math", "abs", "(I)I"⟩ ∈ gtb := gt_3 223 rfl rfl
theorem ov_X1_63 : okV RX1 63 mX1_lastMinute := ⟨ok_X1_lastMinute, gt_4 18 rfl rfl, gt_3 215 rfl rfl, gt_3 216 rfl rfl⟩
theorem oo_X2_3 : Cond.methodLink RX2 3 Lib.objectInit ∈ gtb := gt_1 171 rfl rfl
theorem os_X2_22 : okS RX2 22 mJ7_fill_53178 := ⟨ok_J7_fill_53178, gt_3 119 rfl rfl, gt_1 71 rfl rfl⟩
theorem ov_X2_34 : okV RX2 34 mX2_firstReached := ⟨ok_X2_firstReached, gt_3 120 rfl rfl, gt_3 122 rfl rfl, g_mem 13 rfl rfl⟩
theorem ov_X2_38 : okV RX2 38 mX2_goOn := ⟨ok_X2_goOn, gt_3 124 rfl rfl, gt_3 126 rfl rfl, g_mem 14 rfl rfl⟩
theorem os_X2_42 : okS RX2 42 mX3_pair := ⟨ok_X3_pair, gt_3 128 rfl rfl, gt_3 47 rfl rfl⟩
theorem ov_X2_49 : okV RX2 49 mX3_openFrom := ⟨ok_X3_openFrom, gt_3 129 rfl rfl, gt_3 130 rfl rfl, gt_3 131 rfl rfl⟩
theorem om_X2_52 : Cond.methodLink RX2 52 ⟨"java/lang/Math", "min", "(II)I"⟩ ∈ gtb := gt_3 133 rfl rfl
theorem ov_X2_57 : okV RX2 57 mX2_lastLeft := ⟨ok_X2_lastLeft, gt_3 151 rfl rfl, gt_3 153 rfl rfl, g_mem 15 rfl rfl⟩
theorem ov_X2_60 : okV RX2 60 mX2_goBack := ⟨ok_X2_goBack, gt_3 155 rfl rfl, gt_3 157 rfl rfl, g_mem 16 rfl rfl⟩
theorem ov_X2_63 : okV RX2 63 mX3_openUpTo := ⟨ok_X3_openUpTo, gt_3 159 rfl rfl, gt_3 160 rfl rfl, gt_3 161 rfl rfl⟩
theorem om_X2_66 : Cond.methodLink RX2 66 ⟨"java/lang/Math", "max", "(II)I"⟩ ∈ gtb := gt_3 163 rfl rfl
theorem ov_X2_69 : okV RX2 69 mX2_spread := ⟨ok_X2_spread, gt_3 115 rfl rfl, gt_3 116 rfl rfl, gt_3 117 rfl rfl⟩
theorem ov_X2_73 : okV RX2 73 mX2_gather := ⟨ok_X2_gather, gt_3 147 rfl rfl, gt_3 148 rfl rfl, gt_3 149 rfl rfl⟩
theorem oo_X3_3 : Cond.methodLink RX3 3 Lib.objectInit ∈ gtb := gt_1 65 rfl rfl
theorem ov_X3_30 : okV RX3 30 mX3_clear := ⟨ok_X3_clear, gt_1 66 rfl rfl, gt_1 67 rfl rfl, gt_1 68 rfl rfl⟩
theorem os_X3_33 : okS RX3 33 mJ7_fill_53178 := ⟨ok_J7_fill_53178, gt_1 70 rfl rfl, gt_1 71 rfl rfl⟩
theorem oa_X3_55 : Cond.methodLink RX3 55 arraycopyName ∈ gtb := gt_3 80 rfl rfl
theorem oo_X4_3 : Cond.methodLink RX4 3 Lib.objectInit ∈ gtb := gt_1 141 rfl rfl
theorem ov_X4_19 : okV RX4 19 mX3_clear := ⟨ok_X3_clear, gt_2 195 rfl rfl, gt_1 67 rfl rfl, gt_1 68 rfl rfl⟩
theorem ov_X4_46 : okV RX4 46 mX8_advance := ⟨ok_X8_advance, gt_2 196 rfl rfl, gt_2 197 rfl rfl, gt_2 198 rfl rfl⟩
theorem ov_X4_52 : okV RX4 52 mX4_isOf := ⟨ok_X4_isOf, gt_2 208 rfl rfl, gt_2 210 rfl rfl, g_mem 2 rfl rfl⟩
theorem ov_X4_56 : okV RX4 56 mX4_takeLine := ⟨ok_X4_takeLine, gt_2 216 rfl rfl, gt_2 218 rfl rfl, g_mem 4 rfl rfl⟩
theorem ov_X4_63 : okV RX4 63 mX4_fail := ⟨ok_X4_fail, gt_2 212 rfl rfl, gt_2 214 rfl rfl, g_mem 3 rfl rfl⟩
theorem ov_X4_71 : okV RX4 71 mX8_isName := ⟨ok_X8_isName, gt_2 221 rfl rfl, gt_2 222 rfl rfl, gt_2 223 rfl rfl⟩
theorem ov_X4_75 : okV RX4 75 mX4_takePlace := ⟨ok_X4_takePlace, gt_3 33 rfl rfl, gt_3 35 rfl rfl, g_mem 5 rfl rfl⟩
theorem ov_X4_80 : okV RX4 80 mX4_takeWay := ⟨ok_X4_takeWay, gt_3 42 rfl rfl, gt_3 44 rfl rfl, g_mem 7 rfl rfl⟩
theorem ov_X4_85 : okV RX4 85 mX4_takeShut := ⟨ok_X4_takeShut, gt_3 50 rfl rfl, gt_3 52 rfl rfl, g_mem 8 rfl rfl⟩
theorem ov_X4_90 : okV RX4 90 mX4_takeMoves := ⟨ok_X4_takeMoves, gt_3 55 rfl rfl, gt_3 57 rfl rfl, g_mem 9 rfl rfl⟩
theorem ov_X4_95 : okV RX4 95 mX4_takeFirst := ⟨ok_X4_takeFirst, gt_3 64 rfl rfl, gt_3 66 rfl rfl, g_mem 10 rfl rfl⟩
theorem ov_X4_100 : okV RX4 100 mX4_takeMost := ⟨ok_X4_takeMost, gt_3 72 rfl rfl, gt_3 74 rfl rfl, g_mem 11 rfl rfl⟩
theorem ov_X4_106 : okV RX4 106 mX4_takeNumber := ⟨ok_X4_takeNumber, gt_3 37 rfl rfl, gt_3 39 rfl rfl, g_mem 6 rfl rfl⟩
theorem os_X4_114 : okS RX4 114 mX3_pair := ⟨ok_X3_pair, gt_3 46 rfl rfl, gt_3 47 rfl rfl⟩
theorem ov_X4_138 : okV RX4 138 mX3_allMoves := ⟨ok_X3_allMoves, gt_3 59 rfl rfl, gt_3 60 rfl rfl, gt_3 61 rfl rfl⟩
theorem oo_X5_1 : Cond.methodLink RX5 1 Lib.objectInit ∈ gtb := gt_1 196 rfl rfl
theorem om_X5_7 : Cond.methodLink RX5 7 ⟨"java/lang/Math", "max", "(II)I"⟩ ∈ gtb := gt_1 197 rfl rfl
theorem om_X5_29 : Cond.methodLink RX5 29 ⟨"java/lang/Math", "min", "(II)I"⟩ ∈ gtb := gt_4 232 rfl rfl
theorem oa_X5_32 : Cond.methodLink RX5 32 arraycopyName ∈ gtb := gt_4 233 rfl rfl
theorem oo_X6_3 : Cond.methodLink RX6 3 Lib.objectInit ∈ gtb := gt_2 117 rfl rfl
theorem om_X6_19 : Cond.methodLink RX6 19 ⟨"java/lang/Math", "max", "(II)I"⟩ ∈ gtb := gt_5 12 rfl rfl
theorem om_X6_25 : Cond.methodLink RX6 25 ⟨"java/lang/Math", "min", "(II)I"⟩ ∈ gtb := gt_5 13 rfl rfl
theorem os_X6_31 : okS RX6 31 mJ7_fill_53178 := ⟨ok_J7_fill_53178, gt_5 14 rfl rfl, gt_1 71 rfl rfl⟩
theorem ov_X6_37 : okV RX6 37 mX6_isNothing := ⟨ok_X6_isNothing, gt_5 35 rfl rfl, gt_5 20 rfl rfl, gt_5 21 rfl rfl⟩
theorem oo_X7_3 : Cond.methodLink RX7 3 Lib.objectInit ∈ gtb := gt_2 5 rfl rfl
theorem ov_X7_59 : okV RX7 59 mX5_at := ⟨ok_X5_at, gt_3 231 rfl rfl, gt_3 169 rfl rfl, gt_3 170 rfl rfl⟩
theorem ov_X7_63 : okV RX7 63 mX1_lastMinute := ⟨ok_X1_lastMinute, gt_3 232 rfl rfl, gt_3 215 rfl rfl, gt_3 216 rfl rfl⟩
theorem ov_X7_67 : okV RX7 67 mX7_putInOrder := ⟨ok_X7_putInOrder, gt_3 233 rfl rfl, gt_3 235 rfl rfl, g_mem 19 rfl rfl⟩
theorem ov_X7_70 : okV RX7 70 mX7_strike := ⟨ok_X7_strike, gt_4 1 rfl rfl, gt_4 3 rfl rfl, g_mem 21 rfl rfl⟩
theorem ov_X7_74 : okV RX7 74 mX7_isAhead := ⟨ok_X7_isAhead, gt_3 237 rfl rfl, gt_3 239 rfl rfl, g_mem 20 rfl rfl⟩
theorem ov_X7_83 : okV RX7 83 mX7_isStanding := ⟨ok_X7_isStanding, gt_4 5 rfl rfl, gt_4 7 rfl rfl, g_mem 22 rfl rfl⟩
theorem om_X7_86 : Cond.methodLink RX7 86 ⟨"java/lang/Math", "min", "(II)I"⟩ ∈ gtb := gt_4 9 rfl rfl
theorem ov_X7_91 : okV RX7 91 mX2_arrival := ⟨ok_X2_arrival, gt_4 39 rfl rfl, gt_3 112 rfl rfl, gt_3 113 rfl rfl⟩
theorem ov_X7_97 : okV RX7 97 mX7_payment := ⟨ok_X7_payment, gt_4 57 rfl rfl, gt_4 59 rfl rfl, g_mem 25 rfl rfl⟩
theorem ov_X7_100 : okV RX7 100 mX7_newsOf := ⟨ok_X7_newsOf, gt_4 120 rfl rfl, gt_4 36 rfl rfl, gt_4 37 rfl rfl⟩
theorem ov_X7_103 : okV RX7 103 mX7_debt := ⟨ok_X7_debt, gt_4 61 rfl rfl, gt_4 62 rfl rfl, gt_4 63 rfl rfl⟩
theorem ov_X7_106 : okV RX7 106 mX7_unitsLeft := ⟨ok_X7_unitsLeft, gt_4 125 rfl rfl, gt_4 127 rfl rfl, g_mem 30 rfl rfl⟩
theorem ov_X7_115 : okV RX7 115 mX7_sumOfDearest := ⟨ok_X7_sumOfDearest, gt_4 65 rfl rfl, gt_4 67 rfl rfl, g_mem 26 rfl rfl⟩
theorem oo_X8_3 : Cond.methodLink RX8 3 Lib.objectInit ∈ gtb := gt_1 34 rfl rfl
theorem ov_X8_22 : okV RX8 22 mX8_endOfRun := ⟨ok_X8_endOfRun, gt_2 200 rfl rfl, gt_2 202 rfl rfl, g_mem 0 rfl rfl⟩
theorem ov_X8_29 : okV RX8 29 mX8_byteAt := ⟨ok_X8_byteAt, gt_2 204 rfl rfl, gt_2 206 rfl rfl, g_mem 1 rfl rfl⟩
theorem ov_X8_39 : okV RX8 39 mJ0_length_8abf5 := ⟨ok_J0_length_8abf5, gt_2 225 rfl rfl, gt_2 226 rfl rfl, gt_2 227 rfl rfl⟩
theorem ov_X8_44 : okV RX8 44 mJ0_charAt_5068e := ⟨ok_J0_charAt_5068e, gt_2 235 rfl rfl, gt_2 236 rfl rfl, gt_2 237 rfl rfl⟩
theorem oo_X9_3 : Cond.methodLink RX9 3 Lib.objectInit ∈ gtb := gt_2 81 rfl rfl
theorem os_X9_23 : okS RX9 23 mJ7_fill_53178 := ⟨ok_J7_fill_53178, gt_4 149 rfl rfl, gt_1 71 rfl rfl⟩
theorem ov_X9_35 : okV RX9 35 mX2_spread := ⟨ok_X2_spread, gt_4 150 rfl rfl, gt_3 116 rfl rfl, gt_3 117 rfl rfl⟩
theorem om_X9_44 : Cond.methodLink RX9 44 ⟨"java/lang/Math", "max", "(II)I"⟩ ∈ gtb := gt_4 151 rfl rfl
theorem ov_X9_50 : okV RX9 50 mX9_look := ⟨ok_X9_look, gt_4 164 rfl rfl, gt_4 146 rfl rfl, gt_4 147 rfl rfl⟩
theorem ov_X9_60 : okV RX9 60 mX9_longestBehind := ⟨ok_X9_longestBehind, gt_4 165 rfl rfl, gt_4 167 rfl rfl, g_mem 31 rfl rfl⟩
theorem ov_X9_67 : okV RX9 67 mX2_gather := ⟨ok_X2_gather, gt_4 169 rfl rfl, gt_3 148 rfl rfl, gt_3 149 rfl rfl⟩
theorem ov_X9_73 : okV RX9 73 mX2_arrival := ⟨ok_X2_arrival, gt_4 170 rfl rfl, gt_3 112 rfl rfl, gt_3 113 rfl rfl⟩
theorem oo_X10_3 : Cond.methodLink RX10 3 Lib.objectInit ∈ gtb := gt_2 98 rfl rfl
theorem os_X10_22 : okS RX10 22 mJ7_fill_d0a16 := ⟨ok_J7_fill_d0a16, gt_4 183 rfl rfl, gt_4 184 rfl rfl⟩
theorem oa_X10_28 : Cond.methodLink RX10 28 arraycopyName ∈ gtb := gt_4 186 rfl rfl
theorem ov_X10_40 : okV RX10 40 mX3_allMoves := ⟨ok_X3_allMoves, gt_4 191 rfl rfl, gt_3 60 rfl rfl, gt_3 61 rfl rfl⟩
theorem ov_X10_44 : okV RX10 44 mX10_walk := ⟨ok_X10_walk, gt_4 209 rfl rfl, gt_4 180 rfl rfl, gt_4 181 rfl rfl⟩
theorem om_X10_48 : Cond.methodLink RX10 48 ⟨"java/lang/Math", "abs", "(I)I"⟩ ∈ gtb := gt_4 210 rfl rfl
theorem om_X10_54 : Cond.methodLink RX10 54 ⟨"java/lang/Math", "max", "(II)I"⟩ ∈ gtb := gt_4 211 rfl rfl
theorem om_X10_58 : Cond.methodLink RX10 58 ⟨"java/lang/Math", "abs", "(J)J"⟩ ∈ gtb := gt_4 195 rfl rfl
theorem om_X10_61 : Cond.methodLink RX10 61 ⟨"java/lang/Math", "max", "(JJ)J"⟩ ∈ gtb := gt_4 198 rfl rfl
theorem oo_X11_1 : Cond.methodLink RX11 1 Lib.objectInit ∈ gtb := gt_1 26 rfl rfl
theorem oi_X11_18 : okI RX11 18 mX3_init := ⟨ok_X3_init, gt_1 62 rfl rfl, gt_1 63 rfl rfl, rfl⟩
theorem oi_X11_28 : okI RX11 28 mX4_init := ⟨ok_X4_init, gt_1 138 rfl rfl, gt_1 139 rfl rfl, rfl⟩
theorem oi_X11_37 : okI RX11 37 mX2_init := ⟨ok_X2_init, gt_1 168 rfl rfl, gt_1 169 rfl rfl, rfl⟩
theorem oi_X11_46 : okI RX11 46 mX1_init := ⟨ok_X1_init, gt_1 187 rfl rfl, gt_1 188 rfl rfl, rfl⟩
theorem oi_X11_57 : okI RX11 57 mX7_init := ⟨ok_X7_init, gt_2 2 rfl rfl, gt_2 3 rfl rfl, rfl⟩
theorem oi_X11_66 : okI RX11 66 mX0_init := ⟨ok_X0_init, gt_2 48 rfl rfl, gt_2 49 rfl rfl, rfl⟩
theorem oi_X11_75 : okI RX11 75 mX9_init := ⟨ok_X9_init, gt_2 78 rfl rfl, gt_2 79 rfl rfl, rfl⟩
theorem oi_X11_84 : okI RX11 84 mX10_init := ⟨ok_X10_init, gt_2 95 rfl rfl, gt_2 96 rfl rfl, rfl⟩
theorem ov_X11_96 : okV RX11 96 mX8_push := ⟨ok_X8_push, gt_2 176 rfl rfl, gt_2 177 rfl rfl, gt_2 178 rfl rfl⟩
theorem os_X11_104 : okS RX11 104 mX11_within := ⟨ok_X11_within, gt_2 184 rfl rfl, gt_2 185 rfl rfl⟩
theorem ov_X11_108 : okV RX11 108 mX4_parse := ⟨ok_X4_parse, gt_2 191 rfl rfl, gt_2 192 rfl rfl, gt_2 193 rfl rfl⟩
theorem ov_X11_119 : okV RX11 119 mX3_become := ⟨ok_X3_become, gt_3 76 rfl rfl, gt_3 77 rfl rfl, gt_3 78 rfl rfl⟩
theorem ov_X11_122 : okV RX11 122 mX1_clear := ⟨ok_X1_clear, gt_3 83 rfl rfl, gt_3 84 rfl rfl, gt_3 85 rfl rfl⟩
theorem ov_X11_148 : okV RX11 148 mX11_isPlace := ⟨ok_X11_isPlace, gt_3 99 rfl rfl, gt_3 101 rfl rfl, g_mem 12 rfl rfl⟩
theorem os_X11_155 : okS RX11 155 mX3_pair := ⟨ok_X3_pair, gt_3 103 rfl rfl, gt_3 47 rfl rfl⟩
theorem os_X11_159 : okS RX11 159 mX11_isMinute := ⟨ok_X11_isMinute, gt_3 108 rfl rfl, gt_3 109 rfl rfl⟩
theorem ov_X11_162 : okV RX11 162 mX2_arrival := ⟨ok_X2_arrival, gt_3 111 rfl rfl, gt_3 112 rfl rfl, gt_3 113 rfl rfl⟩
theorem os_X11_166 : okS RX11 166 mX11_orNone := ⟨ok_X11_orNone, gt_3 136 rfl rfl, gt_3 137 rfl rfl⟩
theorem ov_X11_170 : okV RX11 170 mX2_latest := ⟨ok_X2_latest, gt_3 143 rfl rfl, gt_3 144 rfl rfl, gt_3 145 rfl rfl⟩
theorem ov_X11_173 : okV RX11 173 mX1_priceAt := ⟨ok_X1_priceAt, gt_3 164 rfl rfl, gt_3 165 rfl rfl, gt_3 166 rfl rfl⟩
theorem ov_X11_180 : okV RX11 180 mX5_grow := ⟨ok_X5_grow, gt_3 176 rfl rfl, gt_3 177 rfl rfl, gt_3 178 rfl rfl⟩
theorem ov_X11_185 : okV RX11 185 mX5_put := ⟨ok_X5_put, gt_3 180 rfl rfl, gt_3 181 rfl rfl, gt_3 182 rfl rfl⟩
theorem ov_X11_192 : okV RX11 192 mX2_gather := ⟨ok_X2_gather, gt_3 192 rfl rfl, gt_3 148 rfl rfl, gt_3 149 rfl rfl⟩
theorem ov_X11_196 : okV RX11 196 mX2_gatherAtOnce := ⟨ok_X2_gatherAtOnce, gt_3 193 rfl rfl, gt_3 194 rfl rfl, gt_3 195 rfl rfl⟩
theorem ov_X11_206 : okV RX11 206 mX11_isCall := ⟨ok_X11_isCall, gt_3 205 rfl rfl, gt_3 207 rfl rfl, g_mem 17 rfl rfl⟩
theorem ov_X11_209 : okV RX11 209 mX5_at := ⟨ok_X5_at, gt_3 209 rfl rfl, gt_3 169 rfl rfl, gt_3 170 rfl rfl⟩
theorem ov_X11_212 : okV RX11 212 mX1_lastMinute := ⟨ok_X1_lastMinute, gt_3 214 rfl rfl, gt_3 215 rfl rfl, gt_3 216 rfl rfl⟩
theorem ov_X11_215 : okV RX11 215 mX7_settle := ⟨ok_X7_settle, gt_3 227 rfl rfl, gt_3 228 rfl rfl, gt_3 229 rfl rfl⟩
theorem ov_X11_224 : okV RX11 224 mX1_isUp := ⟨ok_X1_isUp, gt_4 14 rfl rfl, gt_4 15 rfl rfl, gt_4 16 rfl rfl⟩
theorem ov_X11_231 : okV RX11 231 mX11_isDeal := ⟨ok_X11_isDeal, gt_4 31 rfl rfl, gt_4 33 rfl rfl, g_mem 23 rfl rfl⟩
theorem ov_X11_237 : okV RX11 237 mX7_newsOf := ⟨ok_X7_newsOf, gt_4 35 rfl rfl, gt_4 36 rfl rfl, gt_4 37 rfl rfl⟩
theorem ov_X11_240 : okV RX11 240 mX11_isEmptyAs := ⟨ok_X11_isEmptyAs, gt_4 44 rfl rfl, gt_4 46 rfl rfl, g_mem 24 rfl rfl⟩
theorem ov_X11_243 : okV RX11 243 mX7_fewestUndone := ⟨ok_X7_fewestUndone, gt_4 53 rfl rfl, gt_4 54 rfl rfl, gt_4 55 rfl rfl⟩
theorem ov_X11_246 : okV RX11 246 mX7_leastUndone := ⟨ok_X7_leastUndone, gt_4 69 rfl rfl, gt_4 70 rfl rfl, gt_4 71 rfl rfl⟩
theorem ov_X11_249 : okV RX11 249 mX0_watch := ⟨ok_X0_watch, gt_4 77 rfl rfl, gt_4 78 rfl rfl, gt_4 79 rfl rfl⟩
theorem ov_X11_253 : okV RX11 253 mX0_trade := ⟨ok_X0_trade, gt_4 89 rfl rfl, gt_4 90 rfl rfl, gt_4 91 rfl rfl⟩
theorem ov_X11_262 : okV RX11 262 mX0_firstFrom := ⟨ok_X0_firstFrom, gt_4 105 rfl rfl, gt_4 106 rfl rfl, gt_4 107 rfl rfl⟩
theorem ov_X11_266 : okV RX11 266 mX7_debt := ⟨ok_X7_debt, gt_4 115 rfl rfl, gt_4 62 rfl rfl, gt_4 63 rfl rfl⟩
theorem ov_X11_269 : okV RX11 269 mX7_debtKnown := ⟨ok_X7_debtKnown, gt_4 116 rfl rfl, gt_4 117 rfl rfl, gt_4 118 rfl rfl⟩
theorem ov_X11_272 : okV RX11 272 mX7_debtAtMost := ⟨ok_X7_debtAtMost, gt_4 121 rfl rfl, gt_4 122 rfl rfl, gt_4 123 rfl rfl⟩
theorem ov_X11_275 : okV RX11 275 mX7_peakMinute := ⟨ok_X7_peakMinute, gt_4 137 rfl rfl, gt_4 138 rfl rfl, gt_4 139 rfl rfl⟩
theorem ov_X11_278 : okV RX11 278 mX9_look := ⟨ok_X9_look, gt_4 145 rfl rfl, gt_4 146 rfl rfl, gt_4 147 rfl rfl⟩
theorem ov_X11_284 : okV RX11 284 mX9_longestIn := ⟨ok_X9_longestIn, gt_4 160 rfl rfl, gt_4 161 rfl rfl, gt_4 162 rfl rfl⟩
theorem os_X11_287 : okS RX11 287 mX11_isAge := ⟨ok_X11_isAge, gt_4 175 rfl rfl, gt_4 176 rfl rfl⟩
theorem ov_X11_292 : okV RX11 292 mX10_walk := ⟨ok_X10_walk, gt_4 179 rfl rfl, gt_4 180 rfl rfl, gt_4 181 rfl rfl⟩
theorem ov_X11_299 : okV RX11 299 mX10_power := ⟨ok_X10_power, gt_4 187 rfl rfl, gt_4 188 rfl rfl, gt_4 189 rfl rfl⟩
theorem os_X11_303 : okS RX11 303 mX10_inLowestTerms := ⟨ok_X10_inLowestTerms, gt_4 192 rfl rfl, gt_4 193 rfl rfl⟩
theorem ov_X11_307 : okV RX11 307 mX10_lossSum := ⟨ok_X10_lossSum, gt_4 205 rfl rfl, gt_4 206 rfl rfl, gt_4 207 rfl rfl⟩
theorem ov_X11_311 : okV RX11 311 mX1_become := ⟨ok_X1_become, gt_4 224 rfl rfl, gt_4 225 rfl rfl, gt_4 226 rfl rfl⟩
theorem os_X11_314 : okS RX11 314 mX11_isSheet := ⟨ok_X11_isSheet, gt_5 2 rfl rfl, gt_5 3 rfl rfl⟩
theorem os_X11_317 : okS RX11 317 mX11_isLane := ⟨ok_X11_isLane, gt_5 5 rfl rfl, gt_5 6 rfl rfl⟩
theorem ov_X11_320 : okV RX11 320 mX6_renew := ⟨ok_X6_renew, gt_5 8 rfl rfl, gt_5 9 rfl rfl, gt_5 10 rfl rfl⟩
theorem ov_X11_323 : okV RX11 323 mX6_isNothing := ⟨ok_X6_isNothing, gt_5 19 rfl rfl, gt_5 20 rfl rfl, gt_5 21 rfl rfl⟩
theorem ov_X11_327 : okV RX11 327 mX6_put := ⟨ok_X6_put, gt_5 23 rfl rfl, gt_5 24 rfl rfl, gt_5 25 rfl rfl⟩
theorem ov_X11_329 : okV RX11 329 mX6_faultAs := ⟨ok_X6_faultAs, gt_5 31 rfl rfl, gt_5 32 rfl rfl, gt_5 33 rfl rfl⟩
theorem ov_X11_332 : okV RX11 332 mX6_wholeSteps := ⟨ok_X6_wholeSteps, gt_5 36 rfl rfl, gt_5 37 rfl rfl, gt_5 38 rfl rfl⟩
theorem ov_X11_335 : okV RX11 335 mX6_at := ⟨ok_X6_at, gt_5 40 rfl rfl, gt_5 41 rfl rfl, gt_5 42 rfl rfl⟩
theorem ov_X11_337 : okV RX11 337 mX11_step := ⟨ok_X11_step, gt_5 44 rfl rfl, gt_3 173 rfl rfl, gt_3 174 rfl rfl⟩
theorem ov_X11_344 : okV RX11 344 mX11_seen := ⟨ok_X11_seen, gt_4 48 rfl rfl, gt_4 20 rfl rfl, gt_4 21 rfl rfl⟩
theorem oo_X12_1 : Cond.methodLink RX12 1 Lib.objectInit ∈ gtb := gt_5 58 rfl rfl
theorem os_X12_91 : okS RX12 91 mX12_in := ⟨ok_X12_in, gt_5 183 rfl rfl, gt_5 184 rfl rfl⟩
theorem ov_X12_110 : okV RX12 110 mX12_byteAt := ⟨ok_X12_byteAt, gt_5 194 rfl rfl, gt_5 196 rfl rfl, g_mem 33 rfl rfl⟩
theorem ov_X12_125 : okV RX12 125 mX12_fails := ⟨ok_X12_fails, gt_5 202 rfl rfl, gt_5 204 rfl rfl, g_mem 34 rfl rfl⟩
theorem ov_X12_129 : okV RX12 129 mX12_here := ⟨ok_X12_here, gt_5 219 rfl rfl, gt_5 221 rfl rfl, g_mem 38 rfl rfl⟩
theorem ov_X12_133 : okV RX12 133 mX12_next := ⟨ok_X12_next, gt_5 190 rfl rfl, gt_5 192 rfl rfl, g_mem 32 rfl rfl⟩
theorem ov_X12_136 : okV RX12 136 mX12_number := ⟨ok_X12_number, gt_5 215 rfl rfl, gt_5 217 rfl rfl, g_mem 37 rfl rfl⟩
theorem ov_X12_142 : okV RX12 142 mX12_nameHere := ⟨ok_X12_nameHere, gt_5 210 rfl rfl, gt_5 212 rfl rfl, g_mem 36 rfl rfl⟩
theorem ov_X12_148 : okV RX12 148 mX12_readWay := ⟨ok_X12_readWay, gt_5 223 rfl rfl, gt_5 225 rfl rfl, g_mem 39 rfl rfl⟩
theorem ov_X12_151 : okV RX12 151 mX12_readShut := ⟨ok_X12_readShut, gt_5 227 rfl rfl, gt_5 229 rfl rfl, g_mem 40 rfl rfl⟩
theorem ov_X12_154 : okV RX12 154 mX12_readRule := ⟨ok_X12_readRule, gt_5 231 rfl rfl, gt_5 233 rfl rfl, g_mem 41 rfl rfl⟩
theorem ov_X12_157 : okV RX12 157 mX12_readLine := ⟨ok_X12_readLine, gt_5 206 rfl rfl, gt_5 208 rfl rfl, g_mem 35 rfl rfl⟩
theorem ov_X12_167 : okV RX12 167 mX12_isPlace := ⟨ok_X12_isPlace, gt_6 8 rfl rfl, gt_6 10 rfl rfl, g_mem 42 rfl rfl⟩
theorem ov_X12_171 : okV RX12 171 mX12_leaves := ⟨ok_X12_leaves, gt_6 28 rfl rfl, gt_6 30 rfl rfl, g_mem 45 rfl rfl⟩
theorem ov_X12_175 : okV RX12 175 mX12_layNews := ⟨ok_X12_layNews, gt_6 24 rfl rfl, gt_6 26 rfl rfl, g_mem 44 rfl rfl⟩
theorem os_X12_179 : okS RX12 179 mX12_isMinute := ⟨ok_X12_isMinute, gt_6 16 rfl rfl, gt_6 17 rfl rfl⟩
theorem ov_X12_182 : okV RX12 182 mX12_news := ⟨ok_X12_news, gt_6 20 rfl rfl, gt_6 22 rfl rfl, g_mem 43 rfl rfl⟩
theorem os_X12_185 : okS RX12 185 mX12_orNone := ⟨ok_X12_orNone, gt_6 32 rfl rfl, gt_6 33 rfl rfl⟩
theorem ov_X12_190 : okV RX12 190 mX12_latest := ⟨ok_X12_latest, gt_6 40 rfl rfl, gt_6 42 rfl rfl, g_mem 46 rfl rfl⟩
theorem ov_X12_193 : okV RX12 193 mX12_priceAt := ⟨ok_X12_priceAt, gt_6 44 rfl rfl, gt_6 46 rfl rfl, g_mem 47 rfl rfl⟩
theorem ov_X12_196 : okV RX12 196 mX12_addStep := ⟨ok_X12_addStep, gt_6 52 rfl rfl, gt_6 54 rfl rfl, g_mem 48 rfl rfl⟩
theorem ov_X12_202 : okV RX12 202 mX12_its := ⟨ok_X12_its, gt_6 78 rfl rfl, gt_6 80 rfl rfl, g_mem 50 rfl rfl⟩
theorem ov_X12_207 : okV RX12 207 mX12_isCall := ⟨ok_X12_isCall, gt_6 74 rfl rfl, gt_6 76 rfl rfl, g_mem 49 rfl rfl⟩
theorem ov_X12_210 : okV RX12 210 mX12_takenBack := ⟨ok_X12_takenBack, gt_6 82 rfl rfl, gt_6 84 rfl rfl, g_mem 51 rfl rfl⟩
theorem ov_X12_213 : okV RX12 213 mX12_ends := ⟨ok_X12_ends, gt_6 91 rfl rfl, gt_6 93 rfl rfl, g_mem 52 rfl rfl⟩
theorem ov_X12_218 : okV RX12 218 mX12_layStruck := ⟨ok_X12_layStruck, gt_6 95 rfl rfl, gt_6 97 rfl rfl, g_mem 53 rfl rfl⟩
theorem ov_X12_221 : okV RX12 221 mX12_deals := ⟨ok_X12_deals, gt_6 99 rfl rfl, gt_6 101 rfl rfl, g_mem 54 rfl rfl⟩
theorem ov_X12_224 : okV RX12 224 mX12_sent4 := ⟨ok_X12_sent4, gt_6 103 rfl rfl, gt_6 105 rfl rfl, g_mem 55 rfl rfl⟩
theorem ov_X12_227 : okV RX12 227 mX12_standsIn := ⟨ok_X12_standsIn, gt_6 115 rfl rfl, gt_6 117 rfl rfl, g_mem 58 rfl rfl⟩
theorem ov_X12_231 : okV RX12 231 mX12_seenBy := ⟨ok_X12_seenBy, gt_6 127 rfl rfl, gt_6 129 rfl rfl, g_mem 59 rfl rfl⟩
theorem ov_X12_234 : okV RX12 234 mX12_rank := ⟨ok_X12_rank, gt_6 111 rfl rfl, gt_6 113 rfl rfl, g_mem 57 rfl rfl⟩
theorem ov_X12_237 : okV RX12 237 mX12_isAhead := ⟨ok_X12_isAhead, gt_6 107 rfl rfl, gt_6 109 rfl rfl, g_mem 56 rfl rfl⟩
theorem ov_X12_240 : okV RX12 240 mX12_isDeal := ⟨ok_X12_isDeal, gt_6 139 rfl rfl, gt_6 141 rfl rfl, g_mem 60 rfl rfl⟩
theorem ov_X12_245 : okV RX12 245 mX12_pays := ⟨ok_X12_pays, gt_6 156 rfl rfl, gt_6 158 rfl rfl, g_mem 62 rfl rfl⟩
theorem ov_X12_248 : okV RX12 248 mX12_owed := ⟨ok_X12_owed, gt_6 152 rfl rfl, gt_6 154 rfl rfl, g_mem 61 rfl rfl⟩
theorem ov_X12_251 : okV RX12 251 mX12_greatest := ⟨ok_X12_greatest, gt_6 160 rfl rfl, gt_6 162 rfl rfl, g_mem 63 rfl rfl⟩
theorem ov_X12_254 : okV RX12 254 mX12_isOffer := ⟨ok_X12_isOffer, gt_6 172 rfl rfl, gt_6 174 rfl rfl, g_mem 65 rfl rfl⟩
theorem ov_X12_264 : okV RX12 264 mX12_bestOf := ⟨ok_X12_bestOf, gt_6 176 rfl rfl, gt_6 178 rfl rfl, g_mem 66 rfl rfl⟩
theorem ov_X12_267 : okV RX12 267 mX12_layGain := ⟨ok_X12_layGain, gt_6 168 rfl rfl, gt_6 170 rfl rfl, g_mem 64 rfl rfl⟩
theorem ov_X12_272 : okV RX12 272 mX12_atMost := ⟨ok_X12_atMost, gt_6 189 rfl rfl, gt_6 191 rfl rfl, g_mem 67 rfl rfl⟩
theorem ov_X12_275 : okV RX12 275 mX12_waitOf := ⟨ok_X12_waitOf, gt_6 205 rfl rfl, gt_6 207 rfl rfl, g_mem 68 rfl rfl⟩
theorem ov_X12_288 : okV RX12 288 mX12_layWalks := ⟨ok_X12_layWalks, gt_6 224 rfl rfl, gt_6 226 rfl rfl, g_mem 69 rfl rfl⟩
theorem os_X12_291 : okS RX12 291 mX12_lowest := ⟨ok_X12_lowest, gt_6 228 rfl rfl, gt_6 229 rfl rfl⟩
theorem ov_X12_295 : okV RX12 295 mX12_lossOf := ⟨ok_X12_lossOf, gt_6 235 rfl rfl, gt_6 237 rfl rfl, g_mem 70 rfl rfl⟩
theorem os_X12_299 : okS RX12 299 mX12_isNoMore := ⟨ok_X12_isNoMore, gt_7 3 rfl rfl, gt_7 4 rfl rfl⟩
theorem ov_J0_335 : okV "java/lang/String" 335 mJ0_coder_7d493 := ⟨ok_J0_coder_7d493, gt_2 229 rfl rfl, gt_2 230 rfl rfl, gt_2 231 rfl rfl⟩
theorem ov_J0_492 : okV "java/lang/String" 492 mJ0_isLatin1_aae02 := ⟨ok_J0_isLatin1_aae02, gt_2 239 rfl rfl, gt_3 0 rfl rfl, gt_3 1 rfl rfl⟩
theorem os_J0_495 : okS "java/lang/String" 495 mJ1_charAt_3b067 := ⟨ok_J1_charAt_3b067, gt_3 3 rfl rfl, gt_3 4 rfl rfl⟩
theorem os_J0_1059 : okS "java/lang/String" 1059 mJ3_checkIndex_8e157 := ⟨ok_J3_checkIndex_8e157, gt_3 11 rfl rfl, gt_3 12 rfl rfl⟩
theorem os_J1_9 : okS "java/lang/StringLatin1" 9 mJ0_checkIndex_df160 := ⟨ok_J0_checkIndex_df160, gt_3 6 rfl rfl, gt_3 7 rfl rfl⟩
theorem oi_L_9 : okI "LatePricesLaw" 9 mX11_init := ⟨ok_X11_init, gt_1 23 rfl rfl, gt_1 24 rfl rfl, rfl⟩
theorem oi_L_12 : okI "LatePricesLaw" 12 mX12_init := ⟨ok_X12_init, gt_5 55 rfl rfl, gt_5 56 rfl rfl, rfl⟩
theorem ov_L_15 : okV "LatePricesLaw" 15 mX11_feed := ⟨ok_X11_feed, gt_2 172 rfl rfl, gt_2 173 rfl rfl, gt_2 174 rfl rfl⟩
theorem ov_L_19 : okV "LatePricesLaw" 19 mX12_feed := ⟨ok_X12_feed, gt_5 175 rfl rfl, gt_5 176 rfl rfl, gt_5 177 rfl rfl⟩
theorem ov_L_20 : okV "LatePricesLaw" 20 mX11_end := ⟨ok_X11_end, gt_2 180 rfl rfl, gt_2 181 rfl rfl, gt_2 182 rfl rfl⟩
theorem ov_L_24 : okV "LatePricesLaw" 24 mX12_end := ⟨ok_X12_end, gt_5 179 rfl rfl, gt_5 180 rfl rfl, gt_5 181 rfl rfl⟩
theorem ov_L_25 : okV "LatePricesLaw" 25 mX11_system := ⟨ok_X11_system, gt_2 187 rfl rfl, gt_2 188 rfl rfl, gt_2 189 rfl rfl⟩
theorem ov_L_29 : okV "LatePricesLaw" 29 mX12_system := ⟨ok_X12_system, gt_5 186 rfl rfl, gt_5 187 rfl rfl, gt_5 188 rfl rfl⟩
theorem ov_L_30 : okV "LatePricesLaw" 30 mX11_fault := ⟨ok_X11_fault, gt_3 87 rfl rfl, gt_3 88 rfl rfl, gt_3 89 rfl rfl⟩
theorem ov_L_33 : okV "LatePricesLaw" 33 mX12_fault := ⟨ok_X12_fault, gt_5 235 rfl rfl, gt_5 236 rfl rfl, gt_5 237 rfl rfl⟩
theorem ov_L_34 : okV "LatePricesLaw" 34 mX11_told := ⟨ok_X11_told, gt_3 91 rfl rfl, gt_3 92 rfl rfl, gt_3 93 rfl rfl⟩
theorem ov_L_37 : okV "LatePricesLaw" 37 mX12_told := ⟨ok_X12_told, gt_5 239 rfl rfl, gt_6 0 rfl rfl, gt_6 1 rfl rfl⟩
theorem ov_L_38 : okV "LatePricesLaw" 38 mX11_way := ⟨ok_X11_way, gt_3 95 rfl rfl, gt_3 96 rfl rfl, gt_3 97 rfl rfl⟩
theorem ov_L_42 : okV "LatePricesLaw" 42 mX12_way := ⟨ok_X12_way, gt_6 4 rfl rfl, gt_6 5 rfl rfl, gt_6 6 rfl rfl⟩
theorem ov_L_43 : okV "LatePricesLaw" 43 mX11_comes := ⟨ok_X11_comes, gt_3 104 rfl rfl, gt_3 105 rfl rfl, gt_3 106 rfl rfl⟩
theorem ov_L_47 : okV "LatePricesLaw" 47 mX12_comes := ⟨ok_X12_comes, gt_6 12 rfl rfl, gt_6 13 rfl rfl, gt_6 14 rfl rfl⟩
theorem ov_L_48 : okV "LatePricesLaw" 48 mX11_knows := ⟨ok_X11_knows, gt_3 139 rfl rfl, gt_3 140 rfl rfl, gt_3 141 rfl rfl⟩
theorem ov_L_52 : okV "LatePricesLaw" 52 mX12_knows := ⟨ok_X12_knows, gt_6 35 rfl rfl, gt_6 36 rfl rfl, gt_6 37 rfl rfl⟩
theorem ov_L_53 : okV "LatePricesLaw" 53 mX11_step := ⟨ok_X11_step, gt_3 172 rfl rfl, gt_3 173 rfl rfl, gt_3 174 rfl rfl⟩
theorem ov_L_56 : okV "LatePricesLaw" 56 mX12_step := ⟨ok_X12_step, gt_6 48 rfl rfl, gt_6 49 rfl rfl, gt_6 50 rfl rfl⟩
theorem ov_L_57 : okV "LatePricesLaw" 57 mX11_price := ⟨ok_X11_price, gt_3 184 rfl rfl, gt_3 185 rfl rfl, gt_3 186 rfl rfl⟩
theorem ov_L_60 : okV "LatePricesLaw" 60 mX12_price := ⟨ok_X12_price, gt_6 56 rfl rfl, gt_6 57 rfl rfl, gt_6 58 rfl rfl⟩
theorem ov_L_61 : okV "LatePricesLaw" 61 mX11_dearest := ⟨ok_X11_dearest, gt_3 188 rfl rfl, gt_3 189 rfl rfl, gt_3 190 rfl rfl⟩
theorem ov_L_64 : okV "LatePricesLaw" 64 mX12_dearest := ⟨ok_X12_dearest, gt_6 60 rfl rfl, gt_6 61 rfl rfl, gt_6 62 rfl rfl⟩
theorem ov_L_65 : okV "LatePricesLaw" 65 mX11_call := ⟨ok_X11_call, gt_3 197 rfl rfl, gt_3 198 rfl rfl, gt_3 199 rfl rfl⟩
theorem ov_L_69 : okV "LatePricesLaw" 69 mX12_call := ⟨ok_X12_call, gt_6 65 rfl rfl, gt_6 66 rfl rfl, gt_6 67 rfl rfl⟩
theorem ov_L_70 : okV "LatePricesLaw" 70 mX11_takeBack := ⟨ok_X11_takeBack, gt_3 201 rfl rfl, gt_3 202 rfl rfl, gt_3 203 rfl rfl⟩
theorem ov_L_73 : okV "LatePricesLaw" 73 mX12_takeBack := ⟨ok_X12_takeBack, gt_6 70 rfl rfl, gt_6 71 rfl rfl, gt_6 72 rfl rfl⟩
theorem ov_L_74 : okV "LatePricesLaw" 74 mX11_of := ⟨ok_X11_of, gt_3 210 rfl rfl, gt_3 211 rfl rfl, gt_3 212 rfl rfl⟩
theorem ov_L_77 : okV "LatePricesLaw" 77 mX12_of := ⟨ok_X12_of, gt_6 86 rfl rfl, gt_6 87 rfl rfl, gt_6 88 rfl rfl⟩
theorem ov_L_78 : okV "LatePricesLaw" 78 mX11_stands := ⟨ok_X11_stands, gt_4 10 rfl rfl, gt_4 11 rfl rfl, gt_4 12 rfl rfl⟩
theorem ov_L_81 : okV "LatePricesLaw" 81 mX12_stands := ⟨ok_X12_stands, gt_6 119 rfl rfl, gt_6 120 rfl rfl, gt_6 121 rfl rfl⟩
theorem ov_L_82 : okV "LatePricesLaw" 82 mX11_seen := ⟨ok_X11_seen, gt_4 19 rfl rfl, gt_4 20 rfl rfl, gt_4 21 rfl rfl⟩
theorem ov_L_85 : okV "LatePricesLaw" 85 mX12_seen := ⟨ok_X12_seen, gt_6 123 rfl rfl, gt_6 124 rfl rfl, gt_6 125 rfl rfl⟩
theorem ov_L_86 : okV "LatePricesLaw" 86 mX11_deal := ⟨ok_X11_deal, gt_4 23 rfl rfl, gt_4 24 rfl rfl, gt_4 25 rfl rfl⟩
theorem ov_L_89 : okV "LatePricesLaw" 89 mX12_deal := ⟨ok_X12_deal, gt_6 131 rfl rfl, gt_6 132 rfl rfl, gt_6 133 rfl rfl⟩
theorem ov_L_90 : okV "LatePricesLaw" 90 mX11_sent := ⟨ok_X11_sent, gt_4 27 rfl rfl, gt_4 28 rfl rfl, gt_4 29 rfl rfl⟩
theorem ov_L_93 : okV "LatePricesLaw" 93 mX12_sent := ⟨ok_X12_sent, gt_6 135 rfl rfl, gt_6 136 rfl rfl, gt_6 137 rfl rfl⟩
theorem ov_L_94 : okV "LatePricesLaw" 94 mX11_empty := ⟨ok_X11_empty, gt_4 40 rfl rfl, gt_4 41 rfl rfl, gt_4 42 rfl rfl⟩
theorem ov_L_97 : okV "LatePricesLaw" 97 mX12_empty := ⟨ok_X12_empty, gt_6 144 rfl rfl, gt_6 145 rfl rfl, gt_6 146 rfl rfl⟩
theorem ov_L_98 : okV "LatePricesLaw" 98 mX11_undo := ⟨ok_X11_undo, gt_4 49 rfl rfl, gt_4 50 rfl rfl, gt_4 51 rfl rfl⟩
theorem ov_L_101 : okV "LatePricesLaw" 101 mX12_undo := ⟨ok_X12_undo, gt_6 148 rfl rfl, gt_6 149 rfl rfl, gt_6 150 rfl rfl⟩
theorem ov_L_102 : okV "LatePricesLaw" 102 mX11_gain := ⟨ok_X11_gain, gt_4 73 rfl rfl, gt_4 74 rfl rfl, gt_4 75 rfl rfl⟩
theorem ov_L_106 : okV "LatePricesLaw" 106 mX12_gain := ⟨ok_X12_gain, gt_6 164 rfl rfl, gt_6 165 rfl rfl, gt_6 166 rfl rfl⟩
theorem ov_L_107 : okV "LatePricesLaw" 107 mX11_chance := ⟨ok_X11_chance, gt_4 101 rfl rfl, gt_4 102 rfl rfl, gt_4 103 rfl rfl⟩
theorem ov_L_111 : okV "LatePricesLaw" 111 mX12_chance := ⟨ok_X12_chance, gt_6 180 rfl rfl, gt_6 181 rfl rfl, gt_6 182 rfl rfl⟩
theorem ov_L_112 : okV "LatePricesLaw" 112 mX11_owes := ⟨ok_X11_owes, gt_4 110 rfl rfl, gt_4 111 rfl rfl, gt_4 112 rfl rfl⟩
theorem ov_L_115 : okV "LatePricesLaw" 115 mX12_owes := ⟨ok_X12_owes, gt_6 184 rfl rfl, gt_6 185 rfl rfl, gt_6 186 rfl rfl⟩
theorem ov_L_116 : okV "LatePricesLaw" 116 mX11_over := ⟨ok_X11_over, gt_4 129 rfl rfl, gt_4 130 rfl rfl, gt_4 131 rfl rfl⟩
theorem ov_L_119 : okV "LatePricesLaw" 119 mX12_over := ⟨ok_X12_over, gt_6 193 rfl rfl, gt_6 194 rfl rfl, gt_6 195 rfl rfl⟩
theorem ov_L_120 : okV "LatePricesLaw" 120 mX11_peak := ⟨ok_X11_peak, gt_4 133 rfl rfl, gt_4 134 rfl rfl, gt_4 135 rfl rfl⟩
theorem ov_L_123 : okV "LatePricesLaw" 123 mX12_peak := ⟨ok_X12_peak, gt_6 197 rfl rfl, gt_6 198 rfl rfl, gt_6 199 rfl rfl⟩
theorem ov_L_124 : okV "LatePricesLaw" 124 mX11_waits := ⟨ok_X11_waits, gt_4 141 rfl rfl, gt_4 142 rfl rfl, gt_4 143 rfl rfl⟩
theorem ov_L_127 : okV "LatePricesLaw" 127 mX12_waits := ⟨ok_X12_waits, gt_6 201 rfl rfl, gt_6 202 rfl rfl, gt_6 203 rfl rfl⟩
theorem ov_L_128 : okV "LatePricesLaw" 128 mX11_book := ⟨ok_X11_book, gt_4 152 rfl rfl, gt_4 153 rfl rfl, gt_4 154 rfl rfl⟩
theorem ov_L_131 : okV "LatePricesLaw" 131 mX12_book := ⟨ok_X12_book, gt_6 209 rfl rfl, gt_6 210 rfl rfl, gt_6 211 rfl rfl⟩
theorem ov_L_132 : okV "LatePricesLaw" 132 mX11_enough := ⟨ok_X11_enough, gt_4 156 rfl rfl, gt_4 157 rfl rfl, gt_4 158 rfl rfl⟩
theorem ov_L_135 : okV "LatePricesLaw" 135 mX12_enough := ⟨ok_X12_enough, gt_6 213 rfl rfl, gt_6 214 rfl rfl, gt_6 215 rfl rfl⟩
theorem ov_L_136 : okV "LatePricesLaw" 136 mX11_odds := ⟨ok_X11_odds, gt_4 171 rfl rfl, gt_4 172 rfl rfl, gt_4 173 rfl rfl⟩
theorem ov_L_140 : okV "LatePricesLaw" 140 mX12_odds := ⟨ok_X12_odds, gt_6 217 rfl rfl, gt_6 218 rfl rfl, gt_6 219 rfl rfl⟩
theorem ov_L_141 : okV "LatePricesLaw" 141 mX11_loss := ⟨ok_X11_loss, gt_4 201 rfl rfl, gt_4 202 rfl rfl, gt_4 203 rfl rfl⟩
theorem ov_L_144 : okV "LatePricesLaw" 144 mX12_loss := ⟨ok_X12_loss, gt_6 231 rfl rfl, gt_6 232 rfl rfl, gt_6 233 rfl rfl⟩
theorem ov_L_145 : okV "LatePricesLaw" 145 mX11_wide := ⟨ok_X11_wide, gt_4 212 rfl rfl, gt_4 213 rfl rfl, gt_4 214 rfl rfl⟩
theorem ov_L_148 : okV "LatePricesLaw" 148 mX12_wide := ⟨ok_X12_wide, gt_6 239 rfl rfl, gt_7 0 rfl rfl, gt_7 1 rfl rfl⟩
theorem ov_L_149 : okV "LatePricesLaw" 149 mX11_near := ⟨ok_X11_near, gt_4 216 rfl rfl, gt_4 217 rfl rfl, gt_4 218 rfl rfl⟩
theorem ov_L_153 : okV "LatePricesLaw" 153 mX12_near := ⟨ok_X12_near, gt_7 6 rfl rfl, gt_7 7 rfl rfl, gt_7 8 rfl rfl⟩
theorem ov_L_154 : okV "LatePricesLaw" 154 mX11_keep := ⟨ok_X11_keep, gt_4 220 rfl rfl, gt_4 221 rfl rfl, gt_4 222 rfl rfl⟩
theorem ov_L_157 : okV "LatePricesLaw" 157 mX12_keep := ⟨ok_X12_keep, gt_7 10 rfl rfl, gt_7 11 rfl rfl, gt_7 12 rfl rfl⟩
theorem ov_L_158 : okV "LatePricesLaw" 158 mX11_back := ⟨ok_X11_back, gt_4 234 rfl rfl, gt_4 235 rfl rfl, gt_4 236 rfl rfl⟩
theorem ov_L_161 : okV "LatePricesLaw" 161 mX12_back := ⟨ok_X12_back, gt_7 14 rfl rfl, gt_7 15 rfl rfl, gt_7 16 rfl rfl⟩
theorem ov_L_162 : okV "LatePricesLaw" 162 mX11_sheet := ⟨ok_X11_sheet, gt_4 238 rfl rfl, gt_4 239 rfl rfl, gt_5 0 rfl rfl⟩
theorem ov_L_165 : okV "LatePricesLaw" 165 mX12_sheet := ⟨ok_X12_sheet, gt_7 18 rfl rfl, gt_7 19 rfl rfl, gt_7 20 rfl rfl⟩
theorem ov_L_166 : okV "LatePricesLaw" 166 mX11_lay := ⟨ok_X11_lay, gt_5 15 rfl rfl, gt_5 16 rfl rfl, gt_5 17 rfl rfl⟩
theorem ov_L_169 : okV "LatePricesLaw" 169 mX12_lay := ⟨ok_X12_lay, gt_7 22 rfl rfl, gt_7 23 rfl rfl, gt_7 24 rfl rfl⟩
theorem ov_L_170 : okV "LatePricesLaw" 170 mX11_read := ⟨ok_X11_read, gt_5 27 rfl rfl, gt_5 28 rfl rfl, gt_5 29 rfl rfl⟩
theorem ov_L_173 : okV "LatePricesLaw" 173 mX12_read := ⟨ok_X12_read, gt_7 26 rfl rfl, gt_7 27 rfl rfl, gt_7 28 rfl rfl⟩
theorem ov_L_174 : okV "LatePricesLaw" 174 mX11_torn := ⟨ok_X11_torn, gt_5 45 rfl rfl, gt_5 46 rfl rfl, gt_5 47 rfl rfl⟩
theorem ov_L_177 : okV "LatePricesLaw" 177 mX12_torn := ⟨ok_X12_torn, gt_7 31 rfl rfl, gt_7 32 rfl rfl, gt_7 33 rfl rfl⟩
theorem ov_L_178 : okV "LatePricesLaw" 178 mX11_count := ⟨ok_X11_count, gt_5 49 rfl rfl, gt_5 50 rfl rfl, gt_5 51 rfl rfl⟩
theorem ov_L_181 : okV "LatePricesLaw" 181 mX12_count := ⟨ok_X12_count, gt_7 35 rfl rfl, gt_7 36 rfl rfl, gt_7 37 rfl rfl⟩
end
