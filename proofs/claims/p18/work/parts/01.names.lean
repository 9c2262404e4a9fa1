-- ===== PART A: goes FIRST, ahead of the names: the tables' words, and 'selects' of the private methods out of them =====
/-- a private method of a class that the tables say can be made, by its rows of tables_1 -/
def lw_okq (q : MethodName × Nat) : Prop := (q.1.cls ≠ "java/lang/invoke/MethodHandle" ∧ q.1.cls ≠ "java/lang/invoke/VarHandle") ∧ Cond.instantiable q.1.cls q.2 ∈ tables_1 ∧ Cond.privateMethod q.1 ∈ tables_1 ∧ Cond.instanceMethod q.1 ∈ tables_1
theorem lw_p0 : lw_okq (⟨"HollowWall", "trayAt", "(I)LHollowWall$Tray;"⟩, 19) := ⟨⟨by decide +kernel, by decide +kernel⟩, List.mem_of_getElem? (i := 21) (by decide +kernel), List.mem_of_getElem? (i := 522) (by decide +kernel), List.mem_of_getElem? (i := 523) (by decide +kernel)⟩
theorem lw_p1 : lw_okq (⟨"HollowWall", "deny", "(I)Z"⟩, 19) := ⟨⟨by decide +kernel, by decide +kernel⟩, List.mem_of_getElem? (i := 21) (by decide +kernel), List.mem_of_getElem? (i := 529) (by decide +kernel), List.mem_of_getElem? (i := 530) (by decide +kernel)⟩
theorem lw_p2 : lw_okq (⟨"HollowWall", "accept", "()Z"⟩, 19) := ⟨⟨by decide +kernel, by decide +kernel⟩, List.mem_of_getElem? (i := 21) (by decide +kernel), List.mem_of_getElem? (i := 540) (by decide +kernel), List.mem_of_getElem? (i := 541) (by decide +kernel)⟩
theorem lw_p3 : lw_okq (⟨"HollowWall", "refuse", "(I)I"⟩, 19) := ⟨⟨by decide +kernel, by decide +kernel⟩, List.mem_of_getElem? (i := 21) (by decide +kernel), List.mem_of_getElem? (i := 563) (by decide +kernel), List.mem_of_getElem? (i := 564) (by decide +kernel)⟩
theorem lw_p4 : lw_okq (⟨"HollowWall$Text", "passToken", "(I)V"⟩, 10) := ⟨⟨by decide +kernel, by decide +kernel⟩, List.mem_of_getElem? (i := 31) (by decide +kernel), List.mem_of_getElem? (i := 610) (by decide +kernel), List.mem_of_getElem? (i := 611) (by decide +kernel)⟩
theorem lw_p5 : lw_okq (⟨"HollowWall$WallReader", "readOath", "(LHollowWall$Text;)Z"⟩, 4) := ⟨⟨by decide +kernel, by decide +kernel⟩, List.mem_of_getElem? (i := 247) (by decide +kernel), List.mem_of_getElem? (i := 614) (by decide +kernel), List.mem_of_getElem? (i := 615) (by decide +kernel)⟩
theorem lw_p6 : lw_okq (⟨"HollowWall$WallReader", "readCourse", "(LHollowWall$Text;)Z"⟩, 4) := ⟨⟨by decide +kernel, by decide +kernel⟩, List.mem_of_getElem? (i := 247) (by decide +kernel), List.mem_of_getElem? (i := 703) (by decide +kernel), List.mem_of_getElem? (i := 704) (by decide +kernel)⟩
theorem lw_p7 : lw_okq (⟨"HollowWall$WallReader", "readMason", "(LHollowWall$Text;)Z"⟩, 4) := ⟨⟨by decide +kernel, by decide +kernel⟩, List.mem_of_getElem? (i := 247) (by decide +kernel), List.mem_of_getElem? (i := 714) (by decide +kernel), List.mem_of_getElem? (i := 715) (by decide +kernel)⟩
theorem lw_p8 : lw_okq (⟨"HollowWall$WallReader", "takeName", "(LHollowWall$Text;)Z"⟩, 4) := ⟨⟨by decide +kernel, by decide +kernel⟩, List.mem_of_getElem? (i := 247) (by decide +kernel), List.mem_of_getElem? (i := 718) (by decide +kernel), List.mem_of_getElem? (i := 719) (by decide +kernel)⟩
theorem lw_p9 : lw_okq (⟨"HollowWall$Text", "isReservedFrom", "(I)Z"⟩, 10) := ⟨⟨by decide +kernel, by decide +kernel⟩, List.mem_of_getElem? (i := 31) (by decide +kernel), List.mem_of_getElem? (i := 727) (by decide +kernel), List.mem_of_getElem? (i := 728) (by decide +kernel)⟩
theorem lw_p10 : lw_okq (⟨"HollowWall$WallReader", "readSlip", "(LHollowWall$Text;)Z"⟩, 4) := ⟨⟨by decide +kernel, by decide +kernel⟩, List.mem_of_getElem? (i := 247) (by decide +kernel), List.mem_of_getElem? (i := 742) (by decide +kernel), List.mem_of_getElem? (i := 743) (by decide +kernel)⟩
theorem lw_p11 : lw_okq (⟨"HollowWall$WallReader", "readFind", "(LHollowWall$Text;)Z"⟩, 4) := ⟨⟨by decide +kernel, by decide +kernel⟩, List.mem_of_getElem? (i := 247) (by decide +kernel), List.mem_of_getElem? (i := 757) (by decide +kernel), List.mem_of_getElem? (i := 758) (by decide +kernel)⟩
theorem lw_p12 : lw_okq (⟨"HollowWall$Wall", "layByMasons", "()V"⟩, 19) := ⟨⟨by decide +kernel, by decide +kernel⟩, List.mem_of_getElem? (i := 83) (by decide +kernel), List.mem_of_getElem? (i := 770) (by decide +kernel), List.mem_of_getElem? (i := 771) (by decide +kernel)⟩
theorem lw_p13 : lw_okq (⟨"HollowWall$Wall", "countStones", "()V"⟩, 19) := ⟨⟨by decide +kernel, by decide +kernel⟩, List.mem_of_getElem? (i := 83) (by decide +kernel), List.mem_of_getElem? (i := 775) (by decide +kernel), List.mem_of_getElem? (i := 776) (by decide +kernel)⟩
theorem lw_p14 : lw_okq (⟨"HollowWall", "answer", "(I)I"⟩, 19) := ⟨⟨by decide +kernel, by decide +kernel⟩, List.mem_of_getElem? (i := 21) (by decide +kernel), List.mem_of_getElem? (i := 791) (by decide +kernel), List.mem_of_getElem? (i := 792) (by decide +kernel)⟩
theorem lw_p15 : lw_okq (⟨"HollowWall$RoundReader", "readEnd", "(LHollowWall$Text;)Z"⟩, 3) := ⟨⟨by decide +kernel, by decide +kernel⟩, List.mem_of_getElem? (i := 269) (by decide +kernel), List.mem_of_getElem? (i := 807) (by decide +kernel), List.mem_of_getElem? (i := 808) (by decide +kernel)⟩
def lw_privs_1 : List (MethodName × Nat) := [(⟨"HollowWall", "trayAt", "(I)LHollowWall$Tray;"⟩, 19), (⟨"HollowWall", "deny", "(I)Z"⟩, 19), (⟨"HollowWall", "accept", "()Z"⟩, 19), (⟨"HollowWall", "refuse", "(I)I"⟩, 19), (⟨"HollowWall$Text", "passToken", "(I)V"⟩, 10), (⟨"HollowWall$WallReader", "readOath", "(LHollowWall$Text;)Z"⟩, 4), (⟨"HollowWall$WallReader", "readCourse", "(LHollowWall$Text;)Z"⟩, 4), (⟨"HollowWall$WallReader", "readMason", "(LHollowWall$Text;)Z"⟩, 4), (⟨"HollowWall$WallReader", "takeName", "(LHollowWall$Text;)Z"⟩, 4), (⟨"HollowWall$Text", "isReservedFrom", "(I)Z"⟩, 10), (⟨"HollowWall$WallReader", "readSlip", "(LHollowWall$Text;)Z"⟩, 4), (⟨"HollowWall$WallReader", "readFind", "(LHollowWall$Text;)Z"⟩, 4), (⟨"HollowWall$Wall", "layByMasons", "()V"⟩, 19), (⟨"HollowWall$Wall", "countStones", "()V"⟩, 19), (⟨"HollowWall", "answer", "(I)I"⟩, 19), (⟨"HollowWall$RoundReader", "readEnd", "(LHollowWall$Text;)Z"⟩, 3)]
theorem lw_r1 : ∀ q ∈ lw_privs_1, lw_okq q := List.forall_mem_cons.mpr ⟨lw_p0, List.forall_mem_cons.mpr ⟨lw_p1, List.forall_mem_cons.mpr ⟨lw_p2, List.forall_mem_cons.mpr ⟨lw_p3, List.forall_mem_cons.mpr ⟨lw_p4, List.forall_mem_cons.mpr ⟨lw_p5, List.forall_mem_cons.mpr ⟨lw_p6, List.forall_mem_cons.mpr ⟨lw_p7, List.forall_mem_cons.mpr ⟨lw_p8, List.forall_mem_cons.mpr ⟨lw_p9, List.forall_mem_cons.mpr ⟨lw_p10, List.forall_mem_cons.mpr ⟨lw_p11, List.forall_mem_cons.mpr ⟨lw_p12, List.forall_mem_cons.mpr ⟨lw_p13, List.forall_mem_cons.mpr ⟨lw_p14, List.forall_mem_cons.mpr ⟨lw_p15, fun _ h => absurd h List.not_mem_nil⟩⟩⟩⟩⟩⟩⟩⟩⟩⟩⟩⟩⟩⟩⟩⟩
theorem lw_p16 : lw_okq (⟨"HollowWall$RoundReader", "readStep", "(LHollowWall$Text;)Z"⟩, 3) := ⟨⟨by decide +kernel, by decide +kernel⟩, List.mem_of_getElem? (i := 269) (by decide +kernel), List.mem_of_getElem? (i := 823) (by decide +kernel), List.mem_of_getElem? (i := 824) (by decide +kernel)⟩
theorem lw_p17 : lw_okq (⟨"HollowWall$RoundReader", "readRest", "(LHollowWall$Text;I)Z"⟩, 3) := ⟨⟨by decide +kernel, by decide +kernel⟩, List.mem_of_getElem? (i := 269) (by decide +kernel), List.mem_of_getElem? (i := 839) (by decide +kernel), List.mem_of_getElem? (i := 840) (by decide +kernel)⟩
theorem lw_p18 : lw_okq (⟨"HollowWall$RoundReader", "readTest", "(LHollowWall$Text;I)Z"⟩, 3) := ⟨⟨by decide +kernel, by decide +kernel⟩, List.mem_of_getElem? (i := 269) (by decide +kernel), List.mem_of_getElem? (i := 844) (by decide +kernel), List.mem_of_getElem? (i := 845) (by decide +kernel)⟩
theorem lw_p19 : lw_okq (⟨"HollowWall", "answerOrNothing", "(I)I"⟩, 19) := ⟨⟨by decide +kernel, by decide +kernel⟩, List.mem_of_getElem? (i := 21) (by decide +kernel), List.mem_of_getElem? (i := 889) (by decide +kernel), List.mem_of_getElem? (i := 890) (by decide +kernel)⟩
theorem lw_p20 : lw_okq (⟨"HollowWall$Readings", "followFromBehind", "(I)V"⟩, 14) := ⟨⟨by decide +kernel, by decide +kernel⟩, List.mem_of_getElem? (i := 288) (by decide +kernel), List.mem_of_getElem? (i := 985) (by decide +kernel), List.mem_of_getElem? (i := 986) (by decide +kernel)⟩
theorem lw_p21 : lw_okq (⟨"HollowWall$Readings", "followBehind", "(III)V"⟩, 14) := ⟨⟨by decide +kernel, by decide +kernel⟩, List.mem_of_getElem? (i := 288) (by decide +kernel), List.mem_of_getElem? (i := 990) (by decide +kernel), List.mem_of_getElem? (i := 991) (by decide +kernel)⟩
theorem lw_p22 : lw_okq (⟨"HollowWall$Readings", "offer", "(II)V"⟩, 14) := ⟨⟨by decide +kernel, by decide +kernel⟩, List.mem_of_getElem? (i := 288) (by decide +kernel), List.mem_of_getElem? (i := 995) (by decide +kernel), List.mem_of_getElem? (i := 996) (by decide +kernel)⟩
theorem lw_p23 : lw_okq (⟨"HollowWall$Readings", "priceOf", "(III)I"⟩, 14) := ⟨⟨by decide +kernel, by decide +kernel⟩, List.mem_of_getElem? (i := 288) (by decide +kernel), List.mem_of_getElem? (i := 1002) (by decide +kernel), List.mem_of_getElem? (i := 1003) (by decide +kernel)⟩
theorem lw_p24 : lw_okq (⟨"HollowWall$Readings", "mayStart", "(I)Z"⟩, 14) := ⟨⟨by decide +kernel, by decide +kernel⟩, List.mem_of_getElem? (i := 288) (by decide +kernel), List.mem_of_getElem? (i := 1006) (by decide +kernel), List.mem_of_getElem? (i := 1007) (by decide +kernel)⟩
theorem lw_p25 : lw_okq (⟨"HollowWall$Readings", "waysAt", "(I)I"⟩, 14) := ⟨⟨by decide +kernel, by decide +kernel⟩, List.mem_of_getElem? (i := 288) (by decide +kernel), List.mem_of_getElem? (i := 1010) (by decide +kernel), List.mem_of_getElem? (i := 1011) (by decide +kernel)⟩
theorem lw_p26 : lw_okq (⟨"HollowWall$Readings", "traceFirst", "(I)I"⟩, 14) := ⟨⟨by decide +kernel, by decide +kernel⟩, List.mem_of_getElem? (i := 288) (by decide +kernel), List.mem_of_getElem? (i := 1026) (by decide +kernel), List.mem_of_getElem? (i := 1027) (by decide +kernel)⟩
theorem lw_p27 : lw_okq (⟨"HollowWall$Readings", "traceStone", "(III)I"⟩, 14) := ⟨⟨by decide +kernel, by decide +kernel⟩, List.mem_of_getElem? (i := 288) (by decide +kernel), List.mem_of_getElem? (i := 1030) (by decide +kernel), List.mem_of_getElem? (i := 1031) (by decide +kernel)⟩
theorem lw_p28 : lw_okq (⟨"HollowWall$Readings", "followAhead", "(II)V"⟩, 14) := ⟨⟨by decide +kernel, by decide +kernel⟩, List.mem_of_getElem? (i := 288) (by decide +kernel), List.mem_of_getElem? (i := 1050) (by decide +kernel), List.mem_of_getElem? (i := 1051) (by decide +kernel)⟩
theorem lw_p29 : lw_okq (⟨"HollowWall$Readings", "isLeastAt", "(II)Z"⟩, 14) := ⟨⟨by decide +kernel, by decide +kernel⟩, List.mem_of_getElem? (i := 288) (by decide +kernel), List.mem_of_getElem? (i := 1058) (by decide +kernel), List.mem_of_getElem? (i := 1059) (by decide +kernel)⟩
theorem lw_p30 : lw_okq (⟨"HollowWall", "tellFraction", "(JJ)V"⟩, 19) := ⟨⟨by decide +kernel, by decide +kernel⟩, List.mem_of_getElem? (i := 21) (by decide +kernel), List.mem_of_getElem? (i := 1071) (by decide +kernel), List.mem_of_getElem? (i := 1072) (by decide +kernel)⟩
theorem lw_p31 : lw_okq (⟨"HollowWall$Telling", "gather", "(LHollowWall$Readings;I)V"⟩, 6) := ⟨⟨by decide +kernel, by decide +kernel⟩, List.mem_of_getElem? (i := 347) (by decide +kernel), List.mem_of_getElem? (i := 1090) (by decide +kernel), List.mem_of_getElem? (i := 1091) (by decide +kernel)⟩
def lw_privs_2 : List (MethodName × Nat) := [(⟨"HollowWall$RoundReader", "readStep", "(LHollowWall$Text;)Z"⟩, 3), (⟨"HollowWall$RoundReader", "readRest", "(LHollowWall$Text;I)Z"⟩, 3), (⟨"HollowWall$RoundReader", "readTest", "(LHollowWall$Text;I)Z"⟩, 3), (⟨"HollowWall", "answerOrNothing", "(I)I"⟩, 19), (⟨"HollowWall$Readings", "followFromBehind", "(I)V"⟩, 14), (⟨"HollowWall$Readings", "followBehind", "(III)V"⟩, 14), (⟨"HollowWall$Readings", "offer", "(II)V"⟩, 14), (⟨"HollowWall$Readings", "priceOf", "(III)I"⟩, 14), (⟨"HollowWall$Readings", "mayStart", "(I)Z"⟩, 14), (⟨"HollowWall$Readings", "waysAt", "(I)I"⟩, 14), (⟨"HollowWall$Readings", "traceFirst", "(I)I"⟩, 14), (⟨"HollowWall$Readings", "traceStone", "(III)I"⟩, 14), (⟨"HollowWall$Readings", "followAhead", "(II)V"⟩, 14), (⟨"HollowWall$Readings", "isLeastAt", "(II)Z"⟩, 14), (⟨"HollowWall", "tellFraction", "(JJ)V"⟩, 19), (⟨"HollowWall$Telling", "gather", "(LHollowWall$Readings;I)V"⟩, 6)]
theorem lw_r2 : ∀ q ∈ lw_privs_2, lw_okq q := List.forall_mem_cons.mpr ⟨lw_p16, List.forall_mem_cons.mpr ⟨lw_p17, List.forall_mem_cons.mpr ⟨lw_p18, List.forall_mem_cons.mpr ⟨lw_p19, List.forall_mem_cons.mpr ⟨lw_p20, List.forall_mem_cons.mpr ⟨lw_p21, List.forall_mem_cons.mpr ⟨lw_p22, List.forall_mem_cons.mpr ⟨lw_p23, List.forall_mem_cons.mpr ⟨lw_p24, List.forall_mem_cons.mpr ⟨lw_p25, List.forall_mem_cons.mpr ⟨lw_p26, List.forall_mem_cons.mpr ⟨lw_p27, List.forall_mem_cons.mpr ⟨lw_p28, List.forall_mem_cons.mpr ⟨lw_p29, List.forall_mem_cons.mpr ⟨lw_p30, List.forall_mem_cons.mpr ⟨lw_p31, fun _ h => absurd h List.not_mem_nil⟩⟩⟩⟩⟩⟩⟩⟩⟩⟩⟩⟩⟩⟩⟩⟩
theorem lw_p32 : lw_okq (⟨"HollowWall$Telling", "chooseStones", "(II)V"⟩, 6) := ⟨⟨by decide +kernel, by decide +kernel⟩, List.mem_of_getElem? (i := 347) (by decide +kernel), List.mem_of_getElem? (i := 1104) (by decide +kernel), List.mem_of_getElem? (i := 1105) (by decide +kernel)⟩
theorem lw_p33 : lw_okq (⟨"HollowWall$Telling", "isAsked", "(II)Z"⟩, 6) := ⟨⟨by decide +kernel, by decide +kernel⟩, List.mem_of_getElem? (i := 347) (by decide +kernel), List.mem_of_getElem? (i := 1108) (by decide +kernel), List.mem_of_getElem? (i := 1109) (by decide +kernel)⟩
theorem lw_p34 : lw_okq (⟨"HollowWall$Telling", "fewestFor", "(I)I"⟩, 6) := ⟨⟨by decide +kernel, by decide +kernel⟩, List.mem_of_getElem? (i := 347) (by decide +kernel), List.mem_of_getElem? (i := 1112) (by decide +kernel), List.mem_of_getElem? (i := 1113) (by decide +kernel)⟩
theorem lw_p35 : lw_okq (⟨"HollowWall$Telling", "neededBy", "(II)I"⟩, 6) := ⟨⟨by decide +kernel, by decide +kernel⟩, List.mem_of_getElem? (i := 347) (by decide +kernel), List.mem_of_getElem? (i := 1116) (by decide +kernel), List.mem_of_getElem? (i := 1117) (by decide +kernel)⟩
theorem lw_p36 : lw_okq (⟨"HollowWall$Telling", "bestFor", "(I)I"⟩, 6) := ⟨⟨by decide +kernel, by decide +kernel⟩, List.mem_of_getElem? (i := 347) (by decide +kernel), List.mem_of_getElem? (i := 1121) (by decide +kernel), List.mem_of_getElem? (i := 1122) (by decide +kernel)⟩
theorem lw_p37 : lw_okq (⟨"HollowWall$Site", "isExplained", "(III)Z"⟩, 5) := ⟨⟨by decide +kernel, by decide +kernel⟩, List.mem_of_getElem? (i := 77) (by decide +kernel), List.mem_of_getElem? (i := 1133) (by decide +kernel), List.mem_of_getElem? (i := 1134) (by decide +kernel)⟩
theorem lw_p38 : lw_okq (⟨"HollowWall", "fitsFrom", "(LHollowWall$Tray;II)Z"⟩, 19) := ⟨⟨by decide +kernel, by decide +kernel⟩, List.mem_of_getElem? (i := 21) (by decide +kernel), List.mem_of_getElem? (i := 1175) (by decide +kernel), List.mem_of_getElem? (i := 1176) (by decide +kernel)⟩
theorem lw_p39 : lw_okq (⟨"HollowWall", "canWalk", "()Z"⟩, 19) := ⟨⟨by decide +kernel, by decide +kernel⟩, List.mem_of_getElem? (i := 21) (by decide +kernel), List.mem_of_getElem? (i := 1224) (by decide +kernel), List.mem_of_getElem? (i := 1225) (by decide +kernel)⟩
theorem lw_p40 : lw_okq (⟨"HollowWall$Walker", "begin", "(LHollowWall$Site;II)V"⟩, 12) := ⟨⟨by decide +kernel, by decide +kernel⟩, List.mem_of_getElem? (i := 374) (by decide +kernel), List.mem_of_getElem? (i := 1232) (by decide +kernel), List.mem_of_getElem? (i := 1233) (by decide +kernel)⟩
theorem lw_p41 : lw_okq (⟨"HollowWall$Walker", "behindEnd", "(LHollowWall$Round;I)I"⟩, 12) := ⟨⟨by decide +kernel, by decide +kernel⟩, List.mem_of_getElem? (i := 374) (by decide +kernel), List.mem_of_getElem? (i := 1238) (by decide +kernel), List.mem_of_getElem? (i := 1239) (by decide +kernel)⟩
theorem lw_p42 : lw_okq (⟨"HollowWall$Walker", "behindStep", "(LHollowWall$Site;I)I"⟩, 12) := ⟨⟨by decide +kernel, by decide +kernel⟩, List.mem_of_getElem? (i := 374) (by decide +kernel), List.mem_of_getElem? (i := 1242) (by decide +kernel), List.mem_of_getElem? (i := 1243) (by decide +kernel)⟩
theorem lw_p43 : lw_okq (⟨"HollowWall$Walker", "listen", "(Z)V"⟩, 12) := ⟨⟨by decide +kernel, by decide +kernel⟩, List.mem_of_getElem? (i := 374) (by decide +kernel), List.mem_of_getElem? (i := 1249) (by decide +kernel), List.mem_of_getElem? (i := 1250) (by decide +kernel)⟩
theorem lw_p44 : lw_okq (⟨"HollowWall$Walker", "writeDown", "()V"⟩, 12) := ⟨⟨by decide +kernel, by decide +kernel⟩, List.mem_of_getElem? (i := 374) (by decide +kernel), List.mem_of_getElem? (i := 1254) (by decide +kernel), List.mem_of_getElem? (i := 1255) (by decide +kernel)⟩
theorem lw_p45 : lw_okq (⟨"HollowWall$Walker", "holds", "(LHollowWall$Wall;II)Z"⟩, 12) := ⟨⟨by decide +kernel, by decide +kernel⟩, List.mem_of_getElem? (i := 374) (by decide +kernel), List.mem_of_getElem? (i := 1262) (by decide +kernel), List.mem_of_getElem? (i := 1263) (by decide +kernel)⟩
theorem lw_p46 : lw_okq (⟨"HollowWall", "isAllTrue", "([I)Z"⟩, 19) := ⟨⟨by decide +kernel, by decide +kernel⟩, List.mem_of_getElem? (i := 21) (by decide +kernel), List.mem_of_getElem? (i := 1278) (by decide +kernel), List.mem_of_getElem? (i := 1279) (by decide +kernel)⟩
theorem lw_p47 : lw_okq (⟨"HollowWallModel", "no", "(I)Z"⟩, 53) := ⟨⟨by decide +kernel, by decide +kernel⟩, List.mem_of_getElem? (i := 1296) (by decide +kernel), List.mem_of_getElem? (i := 1479) (by decide +kernel), List.mem_of_getElem? (i := 1480) (by decide +kernel)⟩
def lw_privs_3 : List (MethodName × Nat) := [(⟨"HollowWall$Telling", "chooseStones", "(II)V"⟩, 6), (⟨"HollowWall$Telling", "isAsked", "(II)Z"⟩, 6), (⟨"HollowWall$Telling", "fewestFor", "(I)I"⟩, 6), (⟨"HollowWall$Telling", "neededBy", "(II)I"⟩, 6), (⟨"HollowWall$Telling", "bestFor", "(I)I"⟩, 6), (⟨"HollowWall$Site", "isExplained", "(III)Z"⟩, 5), (⟨"HollowWall", "fitsFrom", "(LHollowWall$Tray;II)Z"⟩, 19), (⟨"HollowWall", "canWalk", "()Z"⟩, 19), (⟨"HollowWall$Walker", "begin", "(LHollowWall$Site;II)V"⟩, 12), (⟨"HollowWall$Walker", "behindEnd", "(LHollowWall$Round;I)I"⟩, 12), (⟨"HollowWall$Walker", "behindStep", "(LHollowWall$Site;I)I"⟩, 12), (⟨"HollowWall$Walker", "listen", "(Z)V"⟩, 12), (⟨"HollowWall$Walker", "writeDown", "()V"⟩, 12), (⟨"HollowWall$Walker", "holds", "(LHollowWall$Wall;II)Z"⟩, 12), (⟨"HollowWall", "isAllTrue", "([I)Z"⟩, 19), (⟨"HollowWallModel", "no", "(I)Z"⟩, 53)]
theorem lw_r3 : ∀ q ∈ lw_privs_3, lw_okq q := List.forall_mem_cons.mpr ⟨lw_p32, List.forall_mem_cons.mpr ⟨lw_p33, List.forall_mem_cons.mpr ⟨lw_p34, List.forall_mem_cons.mpr ⟨lw_p35, List.forall_mem_cons.mpr ⟨lw_p36, List.forall_mem_cons.mpr ⟨lw_p37, List.forall_mem_cons.mpr ⟨lw_p38, List.forall_mem_cons.mpr ⟨lw_p39, List.forall_mem_cons.mpr ⟨lw_p40, List.forall_mem_cons.mpr ⟨lw_p41, List.forall_mem_cons.mpr ⟨lw_p42, List.forall_mem_cons.mpr ⟨lw_p43, List.forall_mem_cons.mpr ⟨lw_p44, List.forall_mem_cons.mpr ⟨lw_p45, List.forall_mem_cons.mpr ⟨lw_p46, List.forall_mem_cons.mpr ⟨lw_p47, fun _ h => absurd h List.not_mem_nil⟩⟩⟩⟩⟩⟩⟩⟩⟩⟩⟩⟩⟩⟩⟩⟩
theorem lw_p48 : lw_okq (⟨"HollowWallModel", "placed", "(II)I"⟩, 53) := ⟨⟨by decide +kernel, by decide +kernel⟩, List.mem_of_getElem? (i := 1296) (by decide +kernel), List.mem_of_getElem? (i := 1487) (by decide +kernel), List.mem_of_getElem? (i := 1488) (by decide +kernel)⟩
theorem lw_p49 : lw_okq (⟨"HollowWallModel", "trayed", "(I)I"⟩, 53) := ⟨⟨by decide +kernel, by decide +kernel⟩, List.mem_of_getElem? (i := 1296) (by decide +kernel), List.mem_of_getElem? (i := 1491) (by decide +kernel), List.mem_of_getElem? (i := 1492) (by decide +kernel)⟩
theorem lw_p50 : lw_okq (⟨"HollowWallModel", "lay", "(I)V"⟩, 53) := ⟨⟨by decide +kernel, by decide +kernel⟩, List.mem_of_getElem? (i := 1296) (by decide +kernel), List.mem_of_getElem? (i := 1511) (by decide +kernel), List.mem_of_getElem? (i := 1512) (by decide +kernel)⟩
theorem lw_p51 : lw_okq (⟨"HollowWallModel", "opens", "(II)Z"⟩, 53) := ⟨⟨by decide +kernel, by decide +kernel⟩, List.mem_of_getElem? (i := 1296) (by decide +kernel), List.mem_of_getElem? (i := 1523) (by decide +kernel), List.mem_of_getElem? (i := 1524) (by decide +kernel)⟩
theorem lw_p52 : lw_okq (⟨"HollowWallModel", "next", "()V"⟩, 53) := ⟨⟨by decide +kernel, by decide +kernel⟩, List.mem_of_getElem? (i := 1296) (by decide +kernel), List.mem_of_getElem? (i := 1527) (by decide +kernel), List.mem_of_getElem? (i := 1528) (by decide +kernel)⟩
theorem lw_p53 : lw_okq (⟨"HollowWallModel", "look2", "(I)I"⟩, 53) := ⟨⟨by decide +kernel, by decide +kernel⟩, List.mem_of_getElem? (i := 1296) (by decide +kernel), List.mem_of_getElem? (i := 1531) (by decide +kernel), List.mem_of_getElem? (i := 1532) (by decide +kernel)⟩
theorem lw_p54 : lw_okq (⟨"HollowWallModel", "isSignByte", "(I)Z"⟩, 53) := ⟨⟨by decide +kernel, by decide +kernel⟩, List.mem_of_getElem? (i := 1296) (by decide +kernel), List.mem_of_getElem? (i := 1543) (by decide +kernel), List.mem_of_getElem? (i := 1544) (by decide +kernel)⟩
theorem lw_p55 : lw_okq (⟨"HollowWallModel", "isOath", "()Z"⟩, 53) := ⟨⟨by decide +kernel, by decide +kernel⟩, List.mem_of_getElem? (i := 1296) (by decide +kernel), List.mem_of_getElem? (i := 1547) (by decide +kernel), List.mem_of_getElem? (i := 1548) (by decide +kernel)⟩
theorem lw_p56 : lw_okq (⟨"HollowWallModel", "isWord", "(J)Z"⟩, 53) := ⟨⟨by decide +kernel, by decide +kernel⟩, List.mem_of_getElem? (i := 1296) (by decide +kernel), List.mem_of_getElem? (i := 1554) (by decide +kernel), List.mem_of_getElem? (i := 1555) (by decide +kernel)⟩
theorem lw_p57 : lw_okq (⟨"HollowWallModel", "must", "(Z)V"⟩, 53) := ⟨⟨by decide +kernel, by decide +kernel⟩, List.mem_of_getElem? (i := 1296) (by decide +kernel), List.mem_of_getElem? (i := 1558) (by decide +kernel), List.mem_of_getElem? (i := 1559) (by decide +kernel)⟩
theorem lw_p58 : lw_okq (⟨"HollowWallModel", "wrongToken", "()V"⟩, 53) := ⟨⟨by decide +kernel, by decide +kernel⟩, List.mem_of_getElem? (i := 1296) (by decide +kernel), List.mem_of_getElem? (i := 1562) (by decide +kernel), List.mem_of_getElem? (i := 1563) (by decide +kernel)⟩
theorem lw_p59 : lw_okq (⟨"HollowWallModel", "fail", "(II)V"⟩, 53) := ⟨⟨by decide +kernel, by decide +kernel⟩, List.mem_of_getElem? (i := 1296) (by decide +kernel), List.mem_of_getElem? (i := 1566) (by decide +kernel), List.mem_of_getElem? (i := 1567) (by decide +kernel)⟩
theorem lw_p60 : lw_okq (⟨"HollowWallModel", "count", "(II)I"⟩, 53) := ⟨⟨by decide +kernel, by decide +kernel⟩, List.mem_of_getElem? (i := 1296) (by decide +kernel), List.mem_of_getElem? (i := 1570) (by decide +kernel), List.mem_of_getElem? (i := 1571) (by decide +kernel)⟩
theorem lw_p61 : lw_okq (⟨"HollowWallModel", "isFrom", "()Z"⟩, 53) := ⟨⟨by decide +kernel, by decide +kernel⟩, List.mem_of_getElem? (i := 1296) (by decide +kernel), List.mem_of_getElem? (i := 1577) (by decide +kernel), List.mem_of_getElem? (i := 1578) (by decide +kernel)⟩
theorem lw_p62 : lw_okq (⟨"HollowWallModel", "isSign", "(I)Z"⟩, 53) := ⟨⟨by decide +kernel, by decide +kernel⟩, List.mem_of_getElem? (i := 1296) (by decide +kernel), List.mem_of_getElem? (i := 1581) (by decide +kernel), List.mem_of_getElem? (i := 1582) (by decide +kernel)⟩
theorem lw_p63 : lw_okq (⟨"HollowWallModel", "isCourse", "()Z"⟩, 53) := ⟨⟨by decide +kernel, by decide +kernel⟩, List.mem_of_getElem? (i := 1296) (by decide +kernel), List.mem_of_getElem? (i := 1585) (by decide +kernel), List.mem_of_getElem? (i := 1586) (by decide +kernel)⟩
def lw_privs_4 : List (MethodName × Nat) := [(⟨"HollowWallModel", "placed", "(II)I"⟩, 53), (⟨"HollowWallModel", "trayed", "(I)I"⟩, 53), (⟨"HollowWallModel", "lay", "(I)V"⟩, 53), (⟨"HollowWallModel", "opens", "(II)Z"⟩, 53), (⟨"HollowWallModel", "next", "()V"⟩, 53), (⟨"HollowWallModel", "look2", "(I)I"⟩, 53), (⟨"HollowWallModel", "isSignByte", "(I)Z"⟩, 53), (⟨"HollowWallModel", "isOath", "()Z"⟩, 53), (⟨"HollowWallModel", "isWord", "(J)Z"⟩, 53), (⟨"HollowWallModel", "must", "(Z)V"⟩, 53), (⟨"HollowWallModel", "wrongToken", "()V"⟩, 53), (⟨"HollowWallModel", "fail", "(II)V"⟩, 53), (⟨"HollowWallModel", "count", "(II)I"⟩, 53), (⟨"HollowWallModel", "isFrom", "()Z"⟩, 53), (⟨"HollowWallModel", "isSign", "(I)Z"⟩, 53), (⟨"HollowWallModel", "isCourse", "()Z"⟩, 53)]
theorem lw_r4 : ∀ q ∈ lw_privs_4, lw_okq q := List.forall_mem_cons.mpr ⟨lw_p48, List.forall_mem_cons.mpr ⟨lw_p49, List.forall_mem_cons.mpr ⟨lw_p50, List.forall_mem_cons.mpr ⟨lw_p51, List.forall_mem_cons.mpr ⟨lw_p52, List.forall_mem_cons.mpr ⟨lw_p53, List.forall_mem_cons.mpr ⟨lw_p54, List.forall_mem_cons.mpr ⟨lw_p55, List.forall_mem_cons.mpr ⟨lw_p56, List.forall_mem_cons.mpr ⟨lw_p57, List.forall_mem_cons.mpr ⟨lw_p58, List.forall_mem_cons.mpr ⟨lw_p59, List.forall_mem_cons.mpr ⟨lw_p60, List.forall_mem_cons.mpr ⟨lw_p61, List.forall_mem_cons.mpr ⟨lw_p62, List.forall_mem_cons.mpr ⟨lw_p63, fun _ h => absurd h List.not_mem_nil⟩⟩⟩⟩⟩⟩⟩⟩⟩⟩⟩⟩⟩⟩⟩⟩
theorem lw_p64 : lw_okq (⟨"HollowWallModel", "readCourse", "()V"⟩, 53) := ⟨⟨by decide +kernel, by decide +kernel⟩, List.mem_of_getElem? (i := 1296) (by decide +kernel), List.mem_of_getElem? (i := 1589) (by decide +kernel), List.mem_of_getElem? (i := 1590) (by decide +kernel)⟩
theorem lw_p65 : lw_okq (⟨"HollowWallModel", "isMason", "()Z"⟩, 53) := ⟨⟨by decide +kernel, by decide +kernel⟩, List.mem_of_getElem? (i := 1296) (by decide +kernel), List.mem_of_getElem? (i := 1593) (by decide +kernel), List.mem_of_getElem? (i := 1594) (by decide +kernel)⟩
theorem lw_p66 : lw_okq (⟨"HollowWallModel", "readMason", "()V"⟩, 53) := ⟨⟨by decide +kernel, by decide +kernel⟩, List.mem_of_getElem? (i := 1296) (by decide +kernel), List.mem_of_getElem? (i := 1597) (by decide +kernel), List.mem_of_getElem? (i := 1598) (by decide +kernel)⟩
theorem lw_p67 : lw_okq (⟨"HollowWallModel", "isKept", "()Z"⟩, 53) := ⟨⟨by decide +kernel, by decide +kernel⟩, List.mem_of_getElem? (i := 1296) (by decide +kernel), List.mem_of_getElem? (i := 1601) (by decide +kernel), List.mem_of_getElem? (i := 1602) (by decide +kernel)⟩
theorem lw_p68 : lw_okq (⟨"HollowWallModel", "isLays", "()Z"⟩, 53) := ⟨⟨by decide +kernel, by decide +kernel⟩, List.mem_of_getElem? (i := 1296) (by decide +kernel), List.mem_of_getElem? (i := 1605) (by decide +kernel), List.mem_of_getElem? (i := 1606) (by decide +kernel)⟩
theorem lw_p69 : lw_okq (⟨"HollowWallModel", "isCosts", "()Z"⟩, 53) := ⟨⟨by decide +kernel, by decide +kernel⟩, List.mem_of_getElem? (i := 1296) (by decide +kernel), List.mem_of_getElem? (i := 1609) (by decide +kernel), List.mem_of_getElem? (i := 1610) (by decide +kernel)⟩
theorem lw_p70 : lw_okq (⟨"HollowWallModel", "isSlip", "()Z"⟩, 53) := ⟨⟨by decide +kernel, by decide +kernel⟩, List.mem_of_getElem? (i := 1296) (by decide +kernel), List.mem_of_getElem? (i := 1613) (by decide +kernel), List.mem_of_getElem? (i := 1614) (by decide +kernel)⟩
theorem lw_p71 : lw_okq (⟨"HollowWallModel", "isAt", "()Z"⟩, 53) := ⟨⟨by decide +kernel, by decide +kernel⟩, List.mem_of_getElem? (i := 1296) (by decide +kernel), List.mem_of_getElem? (i := 1617) (by decide +kernel), List.mem_of_getElem? (i := 1618) (by decide +kernel)⟩
theorem lw_p72 : lw_okq (⟨"HollowWallModel", "isBy", "()Z"⟩, 53) := ⟨⟨by decide +kernel, by decide +kernel⟩, List.mem_of_getElem? (i := 1296) (by decide +kernel), List.mem_of_getElem? (i := 1621) (by decide +kernel), List.mem_of_getElem? (i := 1622) (by decide +kernel)⟩
theorem lw_p73 : lw_okq (⟨"HollowWallModel", "isFind", "()Z"⟩, 53) := ⟨⟨by decide +kernel, by decide +kernel⟩, List.mem_of_getElem? (i := 1296) (by decide +kernel), List.mem_of_getElem? (i := 1625) (by decide +kernel), List.mem_of_getElem? (i := 1626) (by decide +kernel)⟩
theorem lw_p74 : lw_okq (⟨"HollowWallModel", "isYear", "()Z"⟩, 53) := ⟨⟨by decide +kernel, by decide +kernel⟩, List.mem_of_getElem? (i := 1296) (by decide +kernel), List.mem_of_getElem? (i := 1629) (by decide +kernel), List.mem_of_getElem? (i := 1630) (by decide +kernel)⟩
theorem lw_p75 : lw_okq (⟨"HollowWallModel", "stepWord", "()I"⟩, 53) := ⟨⟨by decide +kernel, by decide +kernel⟩, List.mem_of_getElem? (i := 1296) (by decide +kernel), List.mem_of_getElem? (i := 1633) (by decide +kernel), List.mem_of_getElem? (i := 1634) (by decide +kernel)⟩
theorem lw_p76 : lw_okq (⟨"HollowWallModel", "testWord", "()I"⟩, 53) := ⟨⟨by decide +kernel, by decide +kernel⟩, List.mem_of_getElem? (i := 1296) (by decide +kernel), List.mem_of_getElem? (i := 1637) (by decide +kernel), List.mem_of_getElem? (i := 1638) (by decide +kernel)⟩
theorem lw_p77 : lw_okq (⟨"HollowWallModel", "isEnd", "()Z"⟩, 53) := ⟨⟨by decide +kernel, by decide +kernel⟩, List.mem_of_getElem? (i := 1296) (by decide +kernel), List.mem_of_getElem? (i := 1641) (by decide +kernel), List.mem_of_getElem? (i := 1642) (by decide +kernel)⟩
theorem lw_p78 : lw_okq (⟨"HollowWallModel", "readSlip", "()V"⟩, 53) := ⟨⟨by decide +kernel, by decide +kernel⟩, List.mem_of_getElem? (i := 1296) (by decide +kernel), List.mem_of_getElem? (i := 1645) (by decide +kernel), List.mem_of_getElem? (i := 1646) (by decide +kernel)⟩
theorem lw_p79 : lw_okq (⟨"HollowWallModel", "stonesOf", "(I)I"⟩, 53) := ⟨⟨by decide +kernel, by decide +kernel⟩, List.mem_of_getElem? (i := 1296) (by decide +kernel), List.mem_of_getElem? (i := 1649) (by decide +kernel), List.mem_of_getElem? (i := 1650) (by decide +kernel)⟩
def lw_privs_5 : List (MethodName × Nat) := [(⟨"HollowWallModel", "readCourse", "()V"⟩, 53), (⟨"HollowWallModel", "isMason", "()Z"⟩, 53), (⟨"HollowWallModel", "readMason", "()V"⟩, 53), (⟨"HollowWallModel", "isKept", "()Z"⟩, 53), (⟨"HollowWallModel", "isLays", "()Z"⟩, 53), (⟨"HollowWallModel", "isCosts", "()Z"⟩, 53), (⟨"HollowWallModel", "isSlip", "()Z"⟩, 53), (⟨"HollowWallModel", "isAt", "()Z"⟩, 53), (⟨"HollowWallModel", "isBy", "()Z"⟩, 53), (⟨"HollowWallModel", "isFind", "()Z"⟩, 53), (⟨"HollowWallModel", "isYear", "()Z"⟩, 53), (⟨"HollowWallModel", "stepWord", "()I"⟩, 53), (⟨"HollowWallModel", "testWord", "()I"⟩, 53), (⟨"HollowWallModel", "isEnd", "()Z"⟩, 53), (⟨"HollowWallModel", "readSlip", "()V"⟩, 53), (⟨"HollowWallModel", "stonesOf", "(I)I"⟩, 53)]
theorem lw_r5 : ∀ q ∈ lw_privs_5, lw_okq q := List.forall_mem_cons.mpr ⟨lw_p64, List.forall_mem_cons.mpr ⟨lw_p65, List.forall_mem_cons.mpr ⟨lw_p66, List.forall_mem_cons.mpr ⟨lw_p67, List.forall_mem_cons.mpr ⟨lw_p68, List.forall_mem_cons.mpr ⟨lw_p69, List.forall_mem_cons.mpr ⟨lw_p70, List.forall_mem_cons.mpr ⟨lw_p71, List.forall_mem_cons.mpr ⟨lw_p72, List.forall_mem_cons.mpr ⟨lw_p73, List.forall_mem_cons.mpr ⟨lw_p74, List.forall_mem_cons.mpr ⟨lw_p75, List.forall_mem_cons.mpr ⟨lw_p76, List.forall_mem_cons.mpr ⟨lw_p77, List.forall_mem_cons.mpr ⟨lw_p78, List.forall_mem_cons.mpr ⟨lw_p79, fun _ h => absurd h List.not_mem_nil⟩⟩⟩⟩⟩⟩⟩⟩⟩⟩⟩⟩⟩⟩⟩⟩
theorem lw_p80 : lw_okq (⟨"HollowWallModel", "readFind", "()V"⟩, 53) := ⟨⟨by decide +kernel, by decide +kernel⟩, List.mem_of_getElem? (i := 1296) (by decide +kernel), List.mem_of_getElem? (i := 1653) (by decide +kernel), List.mem_of_getElem? (i := 1654) (by decide +kernel)⟩
theorem lw_p81 : lw_okq (⟨"HollowWallModel", "isWell", "()Z"⟩, 53) := ⟨⟨by decide +kernel, by decide +kernel⟩, List.mem_of_getElem? (i := 1296) (by decide +kernel), List.mem_of_getElem? (i := 1657) (by decide +kernel), List.mem_of_getElem? (i := 1658) (by decide +kernel)⟩
theorem lw_p82 : lw_okq (⟨"HollowWallModel", "readStep", "(I)V"⟩, 53) := ⟨⟨by decide +kernel, by decide +kernel⟩, List.mem_of_getElem? (i := 1296) (by decide +kernel), List.mem_of_getElem? (i := 1665) (by decide +kernel), List.mem_of_getElem? (i := 1666) (by decide +kernel)⟩
theorem lw_p83 : lw_okq (⟨"HollowWallModel", "readTest", "(I)V"⟩, 53) := ⟨⟨by decide +kernel, by decide +kernel⟩, List.mem_of_getElem? (i := 1296) (by decide +kernel), List.mem_of_getElem? (i := 1669) (by decide +kernel), List.mem_of_getElem? (i := 1670) (by decide +kernel)⟩
theorem lw_p84 : lw_okq (⟨"HollowWallModel", "stones", "()I"⟩, 53) := ⟨⟨by decide +kernel, by decide +kernel⟩, List.mem_of_getElem? (i := 1296) (by decide +kernel), List.mem_of_getElem? (i := 1677) (by decide +kernel), List.mem_of_getElem? (i := 1678) (by decide +kernel)⟩
theorem lw_p85 : lw_okq (⟨"HollowWallModel", "noted", "()I"⟩, 53) := ⟨⟨by decide +kernel, by decide +kernel⟩, List.mem_of_getElem? (i := 1296) (by decide +kernel), List.mem_of_getElem? (i := 1681) (by decide +kernel), List.mem_of_getElem? (i := 1682) (by decide +kernel)⟩
theorem lw_p86 : lw_okq (⟨"HollowWallModel", "refuse", "(I)I"⟩, 53) := ⟨⟨by decide +kernel, by decide +kernel⟩, List.mem_of_getElem? (i := 1296) (by decide +kernel), List.mem_of_getElem? (i := 1685) (by decide +kernel), List.mem_of_getElem? (i := 1686) (by decide +kernel)⟩
theorem lw_p87 : lw_okq (⟨"HollowWallModel", "isStone", "(I)Z"⟩, 53) := ⟨⟨by decide +kernel, by decide +kernel⟩, List.mem_of_getElem? (i := 1296) (by decide +kernel), List.mem_of_getElem? (i := 1693) (by decide +kernel), List.mem_of_getElem? (i := 1694) (by decide +kernel)⟩
theorem lw_p88 : lw_okq (⟨"HollowWallModel", "courseOf", "(I)I"⟩, 53) := ⟨⟨by decide +kernel, by decide +kernel⟩, List.mem_of_getElem? (i := 1296) (by decide +kernel), List.mem_of_getElem? (i := 1697) (by decide +kernel), List.mem_of_getElem? (i := 1698) (by decide +kernel)⟩
theorem lw_p89 : lw_okq (⟨"HollowWallModel", "inCourse", "(I)I"⟩, 53) := ⟨⟨by decide +kernel, by decide +kernel⟩, List.mem_of_getElem? (i := 1296) (by decide +kernel), List.mem_of_getElem? (i := 1701) (by decide +kernel), List.mem_of_getElem? (i := 1702) (by decide +kernel)⟩
theorem lw_p90 : lw_okq (⟨"HollowWallModel", "masonOf", "(I)I"⟩, 53) := ⟨⟨by decide +kernel, by decide +kernel⟩, List.mem_of_getElem? (i := 1296) (by decide +kernel), List.mem_of_getElem? (i := 1705) (by decide +kernel), List.mem_of_getElem? (i := 1706) (by decide +kernel)⟩
theorem lw_p91 : lw_okq (⟨"HollowWallModel", "beginOf", "(I)I"⟩, 53) := ⟨⟨by decide +kernel, by decide +kernel⟩, List.mem_of_getElem? (i := 1296) (by decide +kernel), List.mem_of_getElem? (i := 1709) (by decide +kernel), List.mem_of_getElem? (i := 1710) (by decide +kernel)⟩
theorem lw_p92 : lw_okq (⟨"HollowWallModel", "trueCount", "(I)I"⟩, 53) := ⟨⟨by decide +kernel, by decide +kernel⟩, List.mem_of_getElem? (i := 1296) (by decide +kernel), List.mem_of_getElem? (i := 1713) (by decide +kernel), List.mem_of_getElem? (i := 1714) (by decide +kernel)⟩
theorem lw_p93 : lw_okq (⟨"HollowWallModel", "countAll", "(Z)V"⟩, 53) := ⟨⟨by decide +kernel, by decide +kernel⟩, List.mem_of_getElem? (i := 1296) (by decide +kernel), List.mem_of_getElem? (i := 1717) (by decide +kernel), List.mem_of_getElem? (i := 1718) (by decide +kernel)⟩
theorem lw_p94 : lw_okq (⟨"HollowWallModel", "after", "(II)I"⟩, 53) := ⟨⟨by decide +kernel, by decide +kernel⟩, List.mem_of_getElem? (i := 1296) (by decide +kernel), List.mem_of_getElem? (i := 1721) (by decide +kernel), List.mem_of_getElem? (i := 1722) (by decide +kernel)⟩
theorem lw_p95 : lw_okq (⟨"HollowWallModel", "swornCount", "(I)I"⟩, 53) := ⟨⟨by decide +kernel, by decide +kernel⟩, List.mem_of_getElem? (i := 1296) (by decide +kernel), List.mem_of_getElem? (i := 1725) (by decide +kernel), List.mem_of_getElem? (i := 1726) (by decide +kernel)⟩
def lw_privs_6 : List (MethodName × Nat) := [(⟨"HollowWallModel", "readFind", "()V"⟩, 53), (⟨"HollowWallModel", "isWell", "()Z"⟩, 53), (⟨"HollowWallModel", "readStep", "(I)V"⟩, 53), (⟨"HollowWallModel", "readTest", "(I)V"⟩, 53), (⟨"HollowWallModel", "stones", "()I"⟩, 53), (⟨"HollowWallModel", "noted", "()I"⟩, 53), (⟨"HollowWallModel", "refuse", "(I)I"⟩, 53), (⟨"HollowWallModel", "isStone", "(I)Z"⟩, 53), (⟨"HollowWallModel", "courseOf", "(I)I"⟩, 53), (⟨"HollowWallModel", "inCourse", "(I)I"⟩, 53), (⟨"HollowWallModel", "masonOf", "(I)I"⟩, 53), (⟨"HollowWallModel", "beginOf", "(I)I"⟩, 53), (⟨"HollowWallModel", "trueCount", "(I)I"⟩, 53), (⟨"HollowWallModel", "countAll", "(Z)V"⟩, 53), (⟨"HollowWallModel", "after", "(II)I"⟩, 53), (⟨"HollowWallModel", "swornCount", "(I)I"⟩, 53)]
theorem lw_r6 : ∀ q ∈ lw_privs_6, lw_okq q := List.forall_mem_cons.mpr ⟨lw_p80, List.forall_mem_cons.mpr ⟨lw_p81, List.forall_mem_cons.mpr ⟨lw_p82, List.forall_mem_cons.mpr ⟨lw_p83, List.forall_mem_cons.mpr ⟨lw_p84, List.forall_mem_cons.mpr ⟨lw_p85, List.forall_mem_cons.mpr ⟨lw_p86, List.forall_mem_cons.mpr ⟨lw_p87, List.forall_mem_cons.mpr ⟨lw_p88, List.forall_mem_cons.mpr ⟨lw_p89, List.forall_mem_cons.mpr ⟨lw_p90, List.forall_mem_cons.mpr ⟨lw_p91, List.forall_mem_cons.mpr ⟨lw_p92, List.forall_mem_cons.mpr ⟨lw_p93, List.forall_mem_cons.mpr ⟨lw_p94, List.forall_mem_cons.mpr ⟨lw_p95, fun _ h => absurd h List.not_mem_nil⟩⟩⟩⟩⟩⟩⟩⟩⟩⟩⟩⟩⟩⟩⟩⟩
theorem lw_p96 : lw_okq (⟨"HollowWallModel", "isHollow", "(I)Z"⟩, 53) := ⟨⟨by decide +kernel, by decide +kernel⟩, List.mem_of_getElem? (i := 1296) (by decide +kernel), List.mem_of_getElem? (i := 1729) (by decide +kernel), List.mem_of_getElem? (i := 1730) (by decide +kernel)⟩
theorem lw_p97 : lw_okq (⟨"HollowWallModel", "findAt", "(I)I"⟩, 53) := ⟨⟨by decide +kernel, by decide +kernel⟩, List.mem_of_getElem? (i := 1296) (by decide +kernel), List.mem_of_getElem? (i := 1733) (by decide +kernel), List.mem_of_getElem? (i := 1734) (by decide +kernel)⟩
theorem lw_p98 : lw_okq (⟨"HollowWallModel", "laidBy", "(I)I"⟩, 53) := ⟨⟨by decide +kernel, by decide +kernel⟩, List.mem_of_getElem? (i := 1296) (by decide +kernel), List.mem_of_getElem? (i := 1741) (by decide +kernel), List.mem_of_getElem? (i := 1742) (by decide +kernel)⟩
theorem lw_p99 : lw_okq (⟨"HollowWallModel", "costAt", "(I)I"⟩, 53) := ⟨⟨by decide +kernel, by decide +kernel⟩, List.mem_of_getElem? (i := 1296) (by decide +kernel), List.mem_of_getElem? (i := 1770) (by decide +kernel), List.mem_of_getElem? (i := 1771) (by decide +kernel)⟩
theorem lw_p100 : lw_okq (⟨"HollowWallModel", "explains", "(Z)Z"⟩, 53) := ⟨⟨by decide +kernel, by decide +kernel⟩, List.mem_of_getElem? (i := 1296) (by decide +kernel), List.mem_of_getElem? (i := 1802) (by decide +kernel), List.mem_of_getElem? (i := 1803) (by decide +kernel)⟩
theorem lw_p101 : lw_okq (⟨"HollowWallModel", "suits", "(II)Z"⟩, 53) := ⟨⟨by decide +kernel, by decide +kernel⟩, List.mem_of_getElem? (i := 1296) (by decide +kernel), List.mem_of_getElem? (i := 1806) (by decide +kernel), List.mem_of_getElem? (i := 1807) (by decide +kernel)⟩
theorem lw_p102 : lw_okq (⟨"HollowWallModel", "step", "(III)I"⟩, 53) := ⟨⟨by decide +kernel, by decide +kernel⟩, List.mem_of_getElem? (i := 1296) (by decide +kernel), List.mem_of_getElem? (i := 1814) (by decide +kernel), List.mem_of_getElem? (i := 1815) (by decide +kernel)⟩
theorem lw_p103 : lw_okq (⟨"HollowWallModel", "allWays", "(Z)J"⟩, 53) := ⟨⟨by decide +kernel, by decide +kernel⟩, List.mem_of_getElem? (i := 1296) (by decide +kernel), List.mem_of_getElem? (i := 1827) (by decide +kernel), List.mem_of_getElem? (i := 1828) (by decide +kernel)⟩
theorem lw_p104 : lw_okq (⟨"HollowWallModel", "isOn", "(II)Z"⟩, 53) := ⟨⟨by decide +kernel, by decide +kernel⟩, List.mem_of_getElem? (i := 1296) (by decide +kernel), List.mem_of_getElem? (i := 1835) (by decide +kernel), List.mem_of_getElem? (i := 1836) (by decide +kernel)⟩
theorem lw_p105 : lw_okq (⟨"HollowWallModel", "waysWithout", "(I)J"⟩, 53) := ⟨⟨by decide +kernel, by decide +kernel⟩, List.mem_of_getElem? (i := 1296) (by decide +kernel), List.mem_of_getElem? (i := 1855) (by decide +kernel), List.mem_of_getElem? (i := 1856) (by decide +kernel)⟩
theorem lw_p106 : lw_okq (⟨"HollowWallModel", "fraction", "(JJ)Z"⟩, 53) := ⟨⟨by decide +kernel, by decide +kernel⟩, List.mem_of_getElem? (i := 1296) (by decide +kernel), List.mem_of_getElem? (i := 1859) (by decide +kernel), List.mem_of_getElem? (i := 1860) (by decide +kernel)⟩
theorem lw_p107 : lw_okq (⟨"HollowWallModel", "isOathFor", "(II)Z"⟩, 53) := ⟨⟨by decide +kernel, by decide +kernel⟩, List.mem_of_getElem? (i := 1296) (by decide +kernel), List.mem_of_getElem? (i := 1870) (by decide +kernel), List.mem_of_getElem? (i := 1871) (by decide +kernel)⟩
theorem lw_p108 : lw_okq (⟨"HollowWallModel", "countOn", "()V"⟩, 53) := ⟨⟨by decide +kernel, by decide +kernel⟩, List.mem_of_getElem? (i := 1296) (by decide +kernel), List.mem_of_getElem? (i := 1882) (by decide +kernel), List.mem_of_getElem? (i := 1883) (by decide +kernel)⟩
theorem lw_p109 : lw_okq (⟨"HollowWallModel", "readFrom", "(I)V"⟩, 53) := ⟨⟨by decide +kernel, by decide +kernel⟩, List.mem_of_getElem? (i := 1296) (by decide +kernel), List.mem_of_getElem? (i := 1892) (by decide +kernel), List.mem_of_getElem? (i := 1893) (by decide +kernel)⟩
theorem lw_p110 : lw_okq (⟨"HollowWallModel", "knocksBy", "(II)I"⟩, 53) := ⟨⟨by decide +kernel, by decide +kernel⟩, List.mem_of_getElem? (i := 1296) (by decide +kernel), List.mem_of_getElem? (i := 1896) (by decide +kernel), List.mem_of_getElem? (i := 1897) (by decide +kernel)⟩
theorem lw_p111 : lw_okq (⟨"HollowWallModel", "heardBy", "(II)I"⟩, 53) := ⟨⟨by decide +kernel, by decide +kernel⟩, List.mem_of_getElem? (i := 1296) (by decide +kernel), List.mem_of_getElem? (i := 1900) (by decide +kernel), List.mem_of_getElem? (i := 1901) (by decide +kernel)⟩
def lw_privs_7 : List (MethodName × Nat) := [(⟨"HollowWallModel", "isHollow", "(I)Z"⟩, 53), (⟨"HollowWallModel", "findAt", "(I)I"⟩, 53), (⟨"HollowWallModel", "laidBy", "(I)I"⟩, 53), (⟨"HollowWallModel", "costAt", "(I)I"⟩, 53), (⟨"HollowWallModel", "explains", "(Z)Z"⟩, 53), (⟨"HollowWallModel", "suits", "(II)Z"⟩, 53), (⟨"HollowWallModel", "step", "(III)I"⟩, 53), (⟨"HollowWallModel", "allWays", "(Z)J"⟩, 53), (⟨"HollowWallModel", "isOn", "(II)Z"⟩, 53), (⟨"HollowWallModel", "waysWithout", "(I)J"⟩, 53), (⟨"HollowWallModel", "fraction", "(JJ)Z"⟩, 53), (⟨"HollowWallModel", "isOathFor", "(II)Z"⟩, 53), (⟨"HollowWallModel", "countOn", "()V"⟩, 53), (⟨"HollowWallModel", "readFrom", "(I)V"⟩, 53), (⟨"HollowWallModel", "knocksBy", "(II)I"⟩, 53), (⟨"HollowWallModel", "heardBy", "(II)I"⟩, 53)]
theorem lw_r7 : ∀ q ∈ lw_privs_7, lw_okq q := List.forall_mem_cons.mpr ⟨lw_p96, List.forall_mem_cons.mpr ⟨lw_p97, List.forall_mem_cons.mpr ⟨lw_p98, List.forall_mem_cons.mpr ⟨lw_p99, List.forall_mem_cons.mpr ⟨lw_p100, List.forall_mem_cons.mpr ⟨lw_p101, List.forall_mem_cons.mpr ⟨lw_p102, List.forall_mem_cons.mpr ⟨lw_p103, List.forall_mem_cons.mpr ⟨lw_p104, List.forall_mem_cons.mpr ⟨lw_p105, List.forall_mem_cons.mpr ⟨lw_p106, List.forall_mem_cons.mpr ⟨lw_p107, List.forall_mem_cons.mpr ⟨lw_p108, List.forall_mem_cons.mpr ⟨lw_p109, List.forall_mem_cons.mpr ⟨lw_p110, List.forall_mem_cons.mpr ⟨lw_p111, fun _ h => absurd h List.not_mem_nil⟩⟩⟩⟩⟩⟩⟩⟩⟩⟩⟩⟩⟩⟩⟩⟩
theorem lw_p112 : lw_okq (⟨"HollowWallModel", "isTwice", "(I)Z"⟩, 53) := ⟨⟨by decide +kernel, by decide +kernel⟩, List.mem_of_getElem? (i := 1296) (by decide +kernel), List.mem_of_getElem? (i := 1908) (by decide +kernel), List.mem_of_getElem? (i := 1909) (by decide +kernel)⟩
theorem lw_p113 : lw_okq (⟨"HollowWallModel", "isTray", "(I)Z"⟩, 53) := ⟨⟨by decide +kernel, by decide +kernel⟩, List.mem_of_getElem? (i := 1296) (by decide +kernel), List.mem_of_getElem? (i := 1920) (by decide +kernel), List.mem_of_getElem? (i := 1921) (by decide +kernel)⟩
theorem lw_p114 : lw_okq (⟨"HollowWallModel", "numberOf", "(II)J"⟩, 53) := ⟨⟨by decide +kernel, by decide +kernel⟩, List.mem_of_getElem? (i := 1296) (by decide +kernel), List.mem_of_getElem? (i := 1926) (by decide +kernel), List.mem_of_getElem? (i := 1927) (by decide +kernel)⟩
theorem lw_p115 : lw_okq (⟨"HollowWallModel", "fitsAt", "(III)Z"⟩, 53) := ⟨⟨by decide +kernel, by decide +kernel⟩, List.mem_of_getElem? (i := 1296) (by decide +kernel), List.mem_of_getElem? (i := 1930) (by decide +kernel), List.mem_of_getElem? (i := 1931) (by decide +kernel)⟩
theorem lw_p116 : lw_okq (⟨"HollowWallModel", "yearsFound", "()I"⟩, 53) := ⟨⟨by decide +kernel, by decide +kernel⟩, List.mem_of_getElem? (i := 1296) (by decide +kernel), List.mem_of_getElem? (i := 1949) (by decide +kernel), List.mem_of_getElem? (i := 1950) (by decide +kernel)⟩
theorem lw_p117 : lw_okq (⟨"HollowWallModel", "isNoWalk", "()Z"⟩, 53) := ⟨⟨by decide +kernel, by decide +kernel⟩, List.mem_of_getElem? (i := 1296) (by decide +kernel), List.mem_of_getElem? (i := 1970) (by decide +kernel), List.mem_of_getElem? (i := 1971) (by decide +kernel)⟩
theorem lw_p118 : lw_okq (⟨"HollowWallModel", "walks", "(II)V"⟩, 53) := ⟨⟨by decide +kernel, by decide +kernel⟩, List.mem_of_getElem? (i := 1296) (by decide +kernel), List.mem_of_getElem? (i := 1974) (by decide +kernel), List.mem_of_getElem? (i := 1975) (by decide +kernel)⟩
theorem lw_p119 : lw_okq (⟨"HollowWallModel", "doAll", "(III)V"⟩, 53) := ⟨⟨by decide +kernel, by decide +kernel⟩, List.mem_of_getElem? (i := 1296) (by decide +kernel), List.mem_of_getElem? (i := 1978) (by decide +kernel), List.mem_of_getElem? (i := 1979) (by decide +kernel)⟩
theorem lw_p120 : lw_okq (⟨"HollowWallModel", "doOne", "(II)V"⟩, 53) := ⟨⟨by decide +kernel, by decide +kernel⟩, List.mem_of_getElem? (i := 1296) (by decide +kernel), List.mem_of_getElem? (i := 1982) (by decide +kernel), List.mem_of_getElem? (i := 1983) (by decide +kernel)⟩
theorem lw_p121 : lw_okq (⟨"HollowWallModel", "doPlain", "(II)V"⟩, 53) := ⟨⟨by decide +kernel, by decide +kernel⟩, List.mem_of_getElem? (i := 1296) (by decide +kernel), List.mem_of_getElem? (i := 1986) (by decide +kernel), List.mem_of_getElem? (i := 1987) (by decide +kernel)⟩
theorem lw_p122 : lw_okq (⟨"HollowWallModel", "draw", "()I"⟩, 53) := ⟨⟨by decide +kernel, by decide +kernel⟩, List.mem_of_getElem? (i := 1296) (by decide +kernel), List.mem_of_getElem? (i := 1990) (by decide +kernel), List.mem_of_getElem? (i := 1991) (by decide +kernel)⟩
theorem lw_p123 : lw_okq (⟨"HollowWallModel", "turns", "()V"⟩, 53) := ⟨⟨by decide +kernel, by decide +kernel⟩, List.mem_of_getElem? (i := 1296) (by decide +kernel), List.mem_of_getElem? (i := 1995) (by decide +kernel), List.mem_of_getElem? (i := 1996) (by decide +kernel)⟩
theorem lw_p124 : lw_okq (⟨"HollowWallModel", "isSo", "(I)Z"⟩, 53) := ⟨⟨by decide +kernel, by decide +kernel⟩, List.mem_of_getElem? (i := 1296) (by decide +kernel), List.mem_of_getElem? (i := 1999) (by decide +kernel), List.mem_of_getElem? (i := 2000) (by decide +kernel)⟩
theorem lw_p125 : lw_okq (⟨"HollowWallModel", "isAllTrue", "()Z"⟩, 53) := ⟨⟨by decide +kernel, by decide +kernel⟩, List.mem_of_getElem? (i := 1296) (by decide +kernel), List.mem_of_getElem? (i := 2012) (by decide +kernel), List.mem_of_getElem? (i := 2013) (by decide +kernel)⟩
theorem lw_p126 : lw_okq (⟨"HollowWallModel", "copy", "(II)V"⟩, 53) := ⟨⟨by decide +kernel, by decide +kernel⟩, List.mem_of_getElem? (i := 1296) (by decide +kernel), List.mem_of_getElem? (i := 2020) (by decide +kernel), List.mem_of_getElem? (i := 2021) (by decide +kernel)⟩
def lw_privs_8 : List (MethodName × Nat) := [(⟨"HollowWallModel", "isTwice", "(I)Z"⟩, 53), (⟨"HollowWallModel", "isTray", "(I)Z"⟩, 53), (⟨"HollowWallModel", "numberOf", "(II)J"⟩, 53), (⟨"HollowWallModel", "fitsAt", "(III)Z"⟩, 53), (⟨"HollowWallModel", "yearsFound", "()I"⟩, 53), (⟨"HollowWallModel", "isNoWalk", "()Z"⟩, 53), (⟨"HollowWallModel", "walks", "(II)V"⟩, 53), (⟨"HollowWallModel", "doAll", "(III)V"⟩, 53), (⟨"HollowWallModel", "doOne", "(II)V"⟩, 53), (⟨"HollowWallModel", "doPlain", "(II)V"⟩, 53), (⟨"HollowWallModel", "draw", "()I"⟩, 53), (⟨"HollowWallModel", "turns", "()V"⟩, 53), (⟨"HollowWallModel", "isSo", "(I)Z"⟩, 53), (⟨"HollowWallModel", "isAllTrue", "()Z"⟩, 53), (⟨"HollowWallModel", "copy", "(II)V"⟩, 53)]
theorem lw_r8 : ∀ q ∈ lw_privs_8, lw_okq q := List.forall_mem_cons.mpr ⟨lw_p112, List.forall_mem_cons.mpr ⟨lw_p113, List.forall_mem_cons.mpr ⟨lw_p114, List.forall_mem_cons.mpr ⟨lw_p115, List.forall_mem_cons.mpr ⟨lw_p116, List.forall_mem_cons.mpr ⟨lw_p117, List.forall_mem_cons.mpr ⟨lw_p118, List.forall_mem_cons.mpr ⟨lw_p119, List.forall_mem_cons.mpr ⟨lw_p120, List.forall_mem_cons.mpr ⟨lw_p121, List.forall_mem_cons.mpr ⟨lw_p122, List.forall_mem_cons.mpr ⟨lw_p123, List.forall_mem_cons.mpr ⟨lw_p124, List.forall_mem_cons.mpr ⟨lw_p125, List.forall_mem_cons.mpr ⟨lw_p126, fun _ h => absurd h List.not_mem_nil⟩⟩⟩⟩⟩⟩⟩⟩⟩⟩⟩⟩⟩⟩⟩
def lw_privs : List (MethodName × Nat) := lw_privs_1 ++ (lw_privs_2 ++ (lw_privs_3 ++ (lw_privs_4 ++ (lw_privs_5 ++ (lw_privs_6 ++ (lw_privs_7 ++ (lw_privs_8)))))))
def lw_tbl : List Cond := k2_sels lw_privs ++ tables_1
theorem lw_privs_ok : ∀ q ∈ lw_privs, lw_okq q := by
  show ∀ q ∈ lw_privs_1 ++ (lw_privs_2 ++ (lw_privs_3 ++ (lw_privs_4 ++ (lw_privs_5 ++ (lw_privs_6 ++ (lw_privs_7 ++ (lw_privs_8))))))), lw_okq q
  exact List.forall_mem_append.mpr ⟨lw_r1, List.forall_mem_append.mpr ⟨lw_r2, List.forall_mem_append.mpr ⟨lw_r3, List.forall_mem_append.mpr ⟨lw_r4, List.forall_mem_append.mpr ⟨lw_r5, List.forall_mem_append.mpr ⟨lw_r6, List.forall_mem_append.mpr ⟨lw_r7, lw_r8⟩⟩⟩⟩⟩⟩⟩

/-! ===== BEGIN words of one list among another's, by their places ===== -/
theorem goodIn_r {big : List Cond} (ws : List Cond) (ps : List Nat) (hp : ws = ps.filterMap (fun i => big[i]?)) (h : ws.all goodWord = true) : GoodIn big ws := by
  intro w hw
  have h1 := List.all_eq_true.mp h w hw
  rw [hp] at hw
  obtain ⟨i, -, hi⟩ := List.mem_filterMap.mp hw
  have hm : w ∈ big := by first | exact List.mem_of_getElem? hi | exact List.getElem?_mem hi
  exact ⟨hm, good_of_word h1⟩
theorem goodIn_app {big a b : List Cond} (ha : GoodIn big a) (hb : GoodIn big b) : GoodIn big (a ++ b) := fun w h => (List.mem_append.mp h).elim (ha w) (hb w)
theorem goodIn_ca {big a b : List Cond} {c : Cond} (ha : GoodIn big (c :: a)) (hb : GoodIn big b) : GoodIn big (c :: (a ++ b)) := fun w h => (List.mem_cons.mp h).elim (fun e => ha w (List.mem_cons.mpr (Or.inl e))) (fun h => (List.mem_append.mp h).elim (fun h => ha w (List.mem_cons.mpr (Or.inr h))) (hb w))
theorem goodIn_sub {big ws : List Cond} (hm : ∀ w ∈ ws, w ∈ big) (h : ws.all goodWord = true) : GoodIn big ws := fun w hw => ⟨hm w hw, good_of_word (List.all_eq_true.mp h w hw)⟩
/-! ===== END ===== -/

/-! ===== BEGIN new T[n][m]: the outer array a place, the inner ones among the pooled ===== -/
/-- f, but v at every address of l -/
def vr_up {α : Type} (f : Nat → α) (l : List Nat) (v : α) : Nat → α := fun a => if a ∈ l then v else f a
theorem vr_up_in {α : Type} {f : Nat → α} {l : List Nat} {v : α} {a : Nat} (h : a ∈ l) : vr_up f l v a = v := if_pos h
theorem vr_up_ne {α : Type} {f : Nat → α} {l : List Nat} {v : α} {a : Nat} (h : a ∉ l) : vr_up f l v a = f a := if_neg h
theorem vr_rows {L l : List Nat} {f : Nat → va_E} {e : va_E} (h : ∀ a, a ∈ l → a ∉ L) : va_pl L f ++ l.map (fun a => (a, e)) = va_pl (L ++ l) (vr_up f l e) := by
  unfold va_pl
  rw [List.map_append]
  congr 1
  · apply List.map_congr_left
    intro a ha
    rw [vr_up_ne (fun q => h a q ha)]
  · apply List.map_congr_left
    intro a ha
    rw [vr_up_in ha]
theorem vr_lay {X rows : va_W} {x : Nat × va_E} {pl : va_W} {D : va_G} {cl : List vw_C} {H : Heap} (hP : va_P D cl (((X ++ pl) ++ [x]) ++ rows) H) : va_P D cl ((X ++ [x]) ++ (pl ++ rows)) H := by
  rw [List.append_assoc (X ++ pl)] at hP
  have h := va_P.swap hP
  rw [← List.append_assoc X] at h
  have h2 := va_P.swap h
  rw [List.append_assoc (X ++ [x])] at h2
  exact h2
theorem vr_layD {X rows : va_W} {x : Nat × va_E} {pl : va_W} {A : Nat → Prop} (hD : va_D A (((X ++ pl) ++ [x]) ++ rows)) : va_D A ((X ++ [x]) ++ (pl ++ rows)) := by
  rw [List.append_assoc (X ++ pl)] at hD
  have h := va_D.swap hD
  rw [← List.append_assoc X] at h
  have h2 := va_D.swap h
  rw [List.append_assoc (X ++ [x])] at h2
  exact h2
theorem vr_outer (c : ClassId) (N h0 : Nat) : ∀ i : Nat, Jvm.Free.Multi.outerC c N h0 i = arrV c N (fun j => va_rf (if j < i then some (h0 + 1 + j) else none))
  | 0 => by
    show ({ cls := c, slots := Array.replicate N .null, vm := .none } : Cell) = _
    rw [arrV_new]
    refine congrArg (arrV c N) (funext fun j => ?_)
    simp [va_rf]
  | i + 1 => by
    show (Jvm.Free.Multi.outerC c N h0 i).setSlot i (.ref (h0 + 1 + i)) = _
    rw [vr_outer c N h0 i, arrV_store]
    refine congrArg (arrV c N) (funext fun j => ?_)
    by_cases e : j = i
    · subst e
      simp [updV, va_rf]
    · by_cases h : j < i
      · simp [updV, e, h, Nat.lt_succ_of_lt h]
      · simp [updV, e, h, show ¬ j < i + 1 by omega]
def va_AOA (ty : FieldType) (U : State) : Prop := (Cond.arrayOver (.array ty)).before #[] U = true
theorem va_AOA.use {ty : FieldType} {A : Array Value} {U : State} (h : va_AOA ty U) : (Cond.arrayOver (.array ty)).before A U = true := h
section VGM
variable {p : Program} {l : Launch} {e : Env} {R : Room} {s : State} {m : MethodId} {args : Array Value} {below : List Frame} {meth : Method} {c : Code} {H : Heap} {locs : List Loc} {cells slots : Nat} {Q : State → Prop}
variable {cc : ByteArray} {pc : Nat} {ls : Array Slot} {rest : List Value} {D : va_G} {cl : List vw_C} {A : Nat → Prop} {a : Nat} {tys : List (ClassId × FieldType)} {ws : va_W} {H0 : Heap}
theorem va_mna {X : va_W} {L : List Nat} {f : Nat → va_E} {cc : ByteArray} (hexec : p.tables.exec = Jvm.exec) (hb : c.code = cc) {own : String} {index : Nat} {ty : FieldType} {cy : ClassId} (hown : s.vm.findClass own = some m.cls) (hclink : (Cond.classLink own index ("[" ++ (FieldType.array ty).toString)).before args s = true) (hover : va_AOA ty s) (harr : (Cond.arrayClass ty).before args s = true) (hcy : s.vm.findClass (FieldType.array ty).toString = some cy)
    (hK : va_K D cl tys s) (hP : va_P D cl (X ++ va_pl L f) H) (hD : va_D A (X ++ va_pl L f)) (hS : va_S A H0 H locs) (hA : ∀ q, H0.size ≤ q → A q) {n k : Int32} {N' K' : Nat} {z : vp_A} (hn : ¬ n < 0) (hk : ¬ k < 0) (hN : n.toNatClampNeg = N') (hM : k.toNatClampNeg = K')
    (hb1 : N' * 4 ≤ 536870912) (hb2 : K' * componentBytes ty ≤ 536870912) (hb3 : K' ≤ 536870912) (hdf : fits ty (defaultValue ty) = true) (hdd : (defaultValue ty).isDefault = true) (hcells : cells + (1 + N') ≤ R.cells) (hslots : slots + (N' + N' * K') ≤ R.slots) (hz : ∀ c : ClassId, Jvm.Free.Multi.innerC c K' (defaultValue ty) = vp_cell c z) (hdg : decode cc pc = .ok (.multianewarray index 2, 4))
    (kk : ∀ (q : Nat) (r : Nat → Nat) (cA : ClassId) (H1 : Heap), (∀ i j : Nat, i < N' → j < N' → r i = r j → i = j) → (∀ i : Nat, i < N' → r i ∉ L) → va_K D cl (tys ++ [(cA, .array ty)]) s →
      va_P D cl ((X ++ [(q, .inl (cA, N', .inr (.inr (.inr (.inr (fun i => if i < N' then some (r i) else none))))))]) ++ va_pl (L ++ (List.range N').map r) (vr_up f ((List.range N').map r) (.inl (cy, z)))) H1 → va_D A ((X ++ [(q, .inl (cA, N', .inr (.inr (.inr (.inr (fun i => if i < N' then some (r i) else none))))))]) ++ va_pl (L ++ (List.range N').map r) (vr_up f ((List.range N').map r) (.inl (cy, z)))) → va_S A H0 H1 locs →
      W p l e R s m args below meth c H1 locs (cells + 1 + N') (slots + N' + N' * K') Q (F0 m (pc + 4) ls (.ref q :: rest))) : W p l e R s m args below meth c H locs cells slots Q (F0 m pc ls (.int k :: .int n :: rest)) := by
  subst hN
  subst hM
  intro T hT Xs
  obtain ⟨vm₁, cA, comp, -, fA, fC, hO, -, X', step⟩ := Xs.multianewarray2F hexec hown hclink (va_AOA.use hover) harr (g := F0 m pc ls (.int k :: .int n :: rest)) rfl (by rw [hb]; exact hdg) rfl hn hk hb1 hb2 hb3 hdf hdd hcells hslots
  have ec : some cy = some comp := hcy.symm.trans fC
  cases ec
  generalize hF : Jvm.Free.Multi.fill (T.setVm vm₁) cA cy n.toNatClampNeg k.toNatClampNeg (defaultValue ty) n.toNatClampNeg = F at X' step
  have hTh : (T.setVm vm₁).heap = H := hT
  obtain ⟨f1, f2, -, -⟩ := Jvm.Free.Multi.fill_facts (T.setVm vm₁) cA cy n.toNatClampNeg k.toNatClampNeg (defaultValue ty) n.toNatClampNeg
  rw [hF, hTh] at f1 f2
  have hold : ∀ x : Nat, x < H.size → F.heap[x]? = H[x]? := fun x hx => by
    have := Jvm.Free.Multi.fill_old (T.setVm vm₁) cA cy n.toNatClampNeg k.toNatClampNeg (defaultValue ty) (a := x) (by rw [hTh]; exact hx) n.toNatClampNeg
    rw [hF, hTh] at this
    exact this
  have hrow : ∀ j : Nat, j < n.toNatClampNeg → F.heap[H.size + 1 + j]? = some (vp_cell cy z) := fun j hj => by
    have := Jvm.Free.Multi.fill_inner (T.setVm vm₁) cA cy n.toNatClampNeg k.toNatClampNeg (defaultValue ty) n.toNatClampNeg j hj
    rw [hF, hTh, hz] at this
    exact this
  have hout : Jvm.Free.Multi.outerC cA n.toNatClampNeg H.size n.toNatClampNeg = vp_cell cA (n.toNatClampNeg, .inr (.inr (.inr (.inr (fun i => if i < n.toNatClampNeg then some (H.size + 1 + i) else none))))) := by
    rw [vp_cell_q]
    exact vr_outer cA n.toNatClampNeg H.size n.toNatClampNeg
  rw [hout] at f2
  have hlt : ∀ a, a ∈ L → a < H.size := fun a ha => by
    obtain ⟨k9, hk9⟩ := va_pl_get (X := X) (f := f) ha
    exact (hP k9 _ hk9).lt
  have hnl : ∀ i : Nat, i < n.toNatClampNeg → H.size + 1 + i ∉ L := fun i _ h => by
    have := hlt _ h
    omega
  have hnm : ∀ a, a ∈ (List.range n.toNatClampNeg).map (fun i => H.size + 1 + i) → a ∉ L := fun a ha h => by
    obtain ⟨i, -, rfl⟩ := List.mem_map.mp ha
    have := hlt _ h
    omega
  have hP0 : va_P D cl (X ++ va_pl L f) F.heap := hP.kept (fun k9 x hx => hold x.1 ((hP k9 x hx).lt))
  have hP1 : va_P D cl ((X ++ va_pl L f) ++ [(H.size, .inl (cA, n.toNatClampNeg, .inr (.inr (.inr (.inr (fun i => if i < n.toNatClampNeg then some (H.size + 1 + i) else none))))))]) F.heap := hP0.app (fun k9 x hx => by
    have h0 : k9 < 1 := (List.getElem?_eq_some_iff.mp hx).1
    rw [show k9 = 0 by omega] at hx
    cases hx
    exact f2)
  have hP2 : va_P D cl (((X ++ va_pl L f) ++ [(H.size, .inl (cA, n.toNatClampNeg, .inr (.inr (.inr (.inr (fun i => if i < n.toNatClampNeg then some (H.size + 1 + i) else none))))))]) ++ ((List.range n.toNatClampNeg).map (fun i => H.size + 1 + i)).map (fun a => (a, .inl (cy, z)))) F.heap := hP1.app (fun k9 x hx => by
    obtain ⟨a, ha, rfl⟩ := List.mem_map.mp (List.mem_of_getElem? hx)
    obtain ⟨i, hi, rfl⟩ := List.mem_map.mp ha
    exact hrow i (List.mem_range.mp hi))
  have hD2 : va_D A (((X ++ va_pl L f) ++ [(H.size, .inl (cA, n.toNatClampNeg, .inr (.inr (.inr (.inr (fun i => if i < n.toNatClampNeg then some (H.size + 1 + i) else none))))))]) ++ ((List.range n.toNatClampNeg).map (fun i => H.size + 1 + i)).map (fun a => (a, .inl (cy, z)))) := by
    have hD1 := hD.push (e := .inl (cA, n.toNatClampNeg, .inr (.inr (.inr (.inr (fun i => if i < n.toNatClampNeg then some (H.size + 1 + i) else none)))))) hP rfl (hA _ hS.1)
    generalize hW1 : (X ++ va_pl L f) ++ [(H.size, .inl (cA, n.toNatClampNeg, .inr (.inr (.inr (.inr (fun i => if i < n.toNatClampNeg then some (H.size + 1 + i) else none))))))] = W1 at hD1 hP1 ⊢
    have hle : ∀ (k9 : Nat) (x : Nat × va_E), W1[k9]? = some x → x.1 ≤ H.size := fun k9 x hx => by
      rw [← hW1] at hx
      by_cases hl : k9 < (X ++ va_pl L f).length
      · rw [List.getElem?_append_left hl] at hx
        exact Nat.le_of_lt ((hP k9 x hx).lt)
      · rw [List.getElem?_append_right (by omega)] at hx
        have h0 : k9 - (X ++ va_pl L f).length < 1 := (List.getElem?_eq_some_iff.mp hx).1
        rw [show k9 - (X ++ va_pl L f).length = 0 by omega] at hx
        cases hx
        exact Nat.le_refl _
    have hr : ∀ (k9 : Nat) (x : Nat × va_E), (((List.range n.toNatClampNeg).map (fun i => H.size + 1 + i)).map (fun a => ((a, .inl (cy, z)) : Nat × va_E)))[k9]? = some x → x.1 = H.size + 1 + k9 := fun k9 x hx => by
      rw [List.getElem?_map, List.getElem?_map] at hx
      by_cases h9 : k9 < n.toNatClampNeg
      · rw [List.getElem?_range h9] at hx
        cases hx
        rfl
      · have hn0 : (List.range n.toNatClampNeg)[k9]? = none := List.getElem?_eq_none (by rw [List.length_range]; omega)
        rw [hn0] at hx
        cases hx
    refine ⟨fun i j x y hi hj hxy => ?_, fun k9 x hx => ?_⟩
    · by_cases h1 : i < W1.length <;> by_cases h2 : j < W1.length
      · rw [List.getElem?_append_left h1] at hi
        rw [List.getElem?_append_left h2] at hj
        exact hD1.1 i j x y hi hj hxy
      · rw [List.getElem?_append_left h1] at hi
        rw [List.getElem?_append_right (by omega)] at hj
        have := hle _ _ hi
        have := hr _ _ hj
        omega
      · rw [List.getElem?_append_right (by omega)] at hi
        rw [List.getElem?_append_left h2] at hj
        have := hle _ _ hj
        have := hr _ _ hi
        omega
      · rw [List.getElem?_append_right (by omega)] at hi hj
        have := hr _ _ hi
        have := hr _ _ hj
        omega
    · by_cases h1 : k9 < W1.length
      · rw [List.getElem?_append_left h1] at hx
        exact hD1.2 k9 x hx
      · rw [List.getElem?_append_right (by omega)] at hx
        have := hr _ _ hx
        exact hA _ (by have := hS.1; omega)
  have hAr : ArrOfT s cA (.array ty) := fun N9 z9 => by
    obtain ⟨-, k9, hk9, cm9, hkk9⟩ := (hO 0 0 0).1
    exact ⟨(fun q hq => by cases hq), k9, hk9, cm9, hkk9⟩
  have hK2 : va_K D cl (tys ++ [(cA, .array ty)]) s := ⟨hK.1, fun k9 x hx => by
    by_cases hl : k9 < tys.length
    · rw [List.getElem?_append_left hl] at hx
      exact hK.2 k9 x hx
    · rw [List.getElem?_append_right (by omega)] at hx
      have h0 : k9 - tys.length < 1 := (List.getElem?_eq_some_iff.mp hx).1
      rw [show k9 - tys.length = 0 by omega] at hx
      cases hx
      exact ⟨hAr, fA⟩⟩
  obtain ⟨t, a1, b1⟩ := kk H.size (fun i => H.size + 1 + i) cA F.heap (fun i j _ _ h => by have h9 : H.size + 1 + i = H.size + 1 + j := h; omega) hnl hK2 (by rw [← vr_rows hnm]; exact vr_lay hP2) (by rw [← vr_rows hnm]; exact vr_layD hD2) ⟨by rw [f1]; have := hS.1; omega, fun x h1 h2 => (hold x (Nat.lt_of_lt_of_le h1 hS.1)).trans (hS.2.1 x h1 h2), hS.2.2⟩ F rfl X'
  refine ⟨t, step t ?_, b1⟩
  have e : T.heap.size = H.size := by rw [hT]
  rw [e]
  exact a1
end VGM
/-! ===== END ===== -/


def RX0 : String := "HollowWall$Readings"
def TX0 : u_T := fun k => match k with
  | 0 => ("HollowWall$Readings", "costBehind", "[[I", true)
  | 1 => ("HollowWall$Readings", "waysBehind", "[[I", true)
  | 2 => ("HollowWall$Readings", "costAhead", "[[I", true)
  | 3 => ("HollowWall$Readings", "waysAhead", "[[I", true)
  | 4 => ("HollowWall$Readings", "wall", "LHollowWall$Wall;", false)
  | 5 => ("HollowWall$Readings", "notes", "[I", false)
  | 6 => ("HollowWall$Readings", "isFree", "Z", false)
  | 7 => ("HollowWall$Readings", "bestCost", "I", false)
  | 8 => ("HollowWall$Readings", "bestWays", "I", false)
  | 9 => ("HollowWall$Readings", "leastCost", "I", false)
  | 10 => ("HollowWall$Readings", "wayCount", "I", false)
  | 11 => ("HollowWall$Readings", "tracedFirst", "I", false)
  | 12 => ("HollowWall$Readings", "tracedBy", "[I", true)
  | _ => ("HollowWall$Readings", "tracedCount", "[I", true)
def tyX0 : Nat → FieldType := fun k => match k with
  | 0 => .array (.array .int)
  | 1 => .array (.array .int)
  | 2 => .array (.array .int)
  | 3 => .array (.array .int)
  | 4 => .object "HollowWall$Wall"
  | 5 => .array .int
  | 6 => .boolean
  | 7 => .int
  | 8 => .int
  | 9 => .int
  | 10 => .int
  | 11 => .int
  | 12 => .array .int
  | _ => .array .int
abbrev wsX00 : List Cond := u_ws RX0 TX0 14
theorem nmX0 : ∀ a, a < 14 → ∀ b, b < 14 → a ≠ b → (TX0 a).2.1 ≠ (TX0 b).2.1 := by decide +kernel
theorem tyX0_ok : ∀ k, k < 14 → parseFieldDescriptor (TX0 k).2.2.1 = some (tyX0 k) := by decide +kernel
abbrev cX0_init : ByteArray := prog_2_method_1_code
def yX0_init : MethodName := ⟨RX0, "<init>", "()V"⟩
abbrev cX0_solve : ByteArray := prog_2_method_2_code
def yX0_solve : MethodName := ⟨RX0, "solve", "(LHollowWall$Site;Z)Z"⟩
abbrev cX0_stones : ByteArray := prog_2_method_3_code
def yX0_stones : MethodName := ⟨RX0, "stones", "()I"⟩
abbrev cX0_mayStart : ByteArray := prog_2_method_4_code
def yX0_mayStart : MethodName := ⟨RX0, "mayStart", "(I)Z"⟩
abbrev cX0_waysAt : ByteArray := prog_2_method_5_code
def yX0_waysAt : MethodName := ⟨RX0, "waysAt", "(I)I"⟩
abbrev cX0_waysWithout : ByteArray := prog_2_method_6_code
def yX0_waysWithout : MethodName := ⟨RX0, "waysWithout", "(I)I"⟩
abbrev cX0_followFromBehind : ByteArray := prog_2_method_7_code
def yX0_followFromBehind : MethodName := ⟨RX0, "followFromBehind", "(I)V"⟩
abbrev cX0_followBehind : ByteArray := prog_2_method_8_code
def yX0_followBehind : MethodName := ⟨RX0, "followBehind", "(III)V"⟩
abbrev cX0_offer : ByteArray := prog_2_method_9_code
def yX0_offer : MethodName := ⟨RX0, "offer", "(II)V"⟩
abbrev cX0_priceOf : ByteArray := prog_2_method_10_code
def yX0_priceOf : MethodName := ⟨RX0, "priceOf", "(III)I"⟩
abbrev cX0_followFromAhead : ByteArray := prog_2_method_11_code
def yX0_followFromAhead : MethodName := ⟨RX0, "followFromAhead", "()V"⟩
abbrev cX0_followAhead : ByteArray := prog_2_method_12_code
def yX0_followAhead : MethodName := ⟨RX0, "followAhead", "(II)V"⟩
abbrev cX0_isLeastAt : ByteArray := prog_2_method_13_code
def yX0_isLeastAt : MethodName := ⟨RX0, "isLeastAt", "(II)Z"⟩
abbrev cX0_sureness : ByteArray := prog_2_method_14_code
def yX0_sureness : MethodName := ⟨RX0, "sureness", "(I)I"⟩
abbrev cX0_allSaySame : ByteArray := prog_2_method_15_code
def yX0_allSaySame : MethodName := ⟨RX0, "allSaySame", "()Z"⟩
abbrev cX0_hollowWays : ByteArray := prog_2_method_16_code
def yX0_hollowWays : MethodName := ⟨RX0, "hollowWays", "(I)J"⟩
abbrev cX0_trace : ByteArray := prog_2_method_17_code
def yX0_trace : MethodName := ⟨RX0, "trace", "(I)V"⟩
abbrev cX0_traceFirst : ByteArray := prog_2_method_18_code
def yX0_traceFirst : MethodName := ⟨RX0, "traceFirst", "(I)I"⟩
abbrev cX0_traceStone : ByteArray := prog_2_method_19_code
def yX0_traceStone : MethodName := ⟨RX0, "traceStone", "(III)I"⟩
abbrev cX0_isTracedHollow : ByteArray := prog_2_method_20_code
def yX0_isTracedHollow : MethodName := ⟨RX0, "isTracedHollow", "(I)Z"⟩
def RX1 : String := "HollowWall$Round"
def TX1 : u_T := fun k => match k with
  | 0 => ("HollowWall$Round", "steps", "I", false)
  | 1 => ("HollowWall$Round", "length", "I", false)
  | 2 => ("HollowWall$Round", "kind", "[I", true)
  | 3 => ("HollowWall$Round", "number", "[I", true)
  | 4 => ("HollowWall$Round", "test", "[I", true)
  | _ => ("HollowWall$Round", "partner", "[I", true)
def tyX1 : Nat → FieldType := fun k => match k with
  | 0 => .int
  | 1 => .int
  | 2 => .array .int
  | 3 => .array .int
  | 4 => .array .int
  | _ => .array .int
abbrev wsX10 : List Cond := u_ws RX1 TX1 6
theorem nmX1 : ∀ a, a < 6 → ∀ b, b < 6 → a ≠ b → (TX1 a).2.1 ≠ (TX1 b).2.1 := by decide +kernel
theorem tyX1_ok : ∀ k, k < 6 → parseFieldDescriptor (TX1 k).2.2.1 = some (tyX1 k) := by decide +kernel
abbrev cX1_init : ByteArray := prog_3_method_1_code
def yX1_init : MethodName := ⟨RX1, "<init>", "()V"⟩
abbrev cX1_copyFrom : ByteArray := prog_3_method_2_code
def yX1_copyFrom : MethodName := ⟨RX1, "copyFrom", "(LHollowWall$Round;)V"⟩
abbrev cX1_add : ByteArray := prog_3_method_3_code
def yX1_add : MethodName := ⟨RX1, "add", "(I)I"⟩
abbrev cX1_pair : ByteArray := prog_3_method_4_code
def yX1_pair : MethodName := ⟨RX1, "pair", "(II)V"⟩
def RX2 : String := "HollowWall$RoundReader"
def TX2 : u_T := fun k => match k with
  | 0 => ("HollowWall$RoundReader", "round", "LHollowWall$Round;", true)
  | 1 => ("HollowWall$RoundReader", "openings", "[I", true)
  | _ => ("HollowWall$RoundReader", "open", "I", false)
def tyX2 : Nat → FieldType := fun k => match k with
  | 0 => .object "HollowWall$Round"
  | 1 => .array .int
  | _ => .int
abbrev wsX20 : List Cond := u_ws RX2 TX2 3
theorem nmX2 : ∀ a, a < 3 → ∀ b, b < 3 → a ≠ b → (TX2 a).2.1 ≠ (TX2 b).2.1 := by decide +kernel
theorem tyX2_ok : ∀ k, k < 3 → parseFieldDescriptor (TX2 k).2.2.1 = some (tyX2 k) := by decide +kernel
abbrev cX2_init : ByteArray := prog_4_method_1_code
def yX2_init : MethodName := ⟨RX2, "<init>", "()V"⟩
abbrev cX2_readRound : ByteArray := prog_4_method_2_code
def yX2_readRound : MethodName := ⟨RX2, "readRound", "(LHollowWall$Text;I)Z"⟩
abbrev cX2_readEnd : ByteArray := prog_4_method_3_code
def yX2_readEnd : MethodName := ⟨RX2, "readEnd", "(LHollowWall$Text;)Z"⟩
abbrev cX2_readStep : ByteArray := prog_4_method_4_code
def yX2_readStep : MethodName := ⟨RX2, "readStep", "(LHollowWall$Text;)Z"⟩
abbrev cX2_stepKind : ByteArray := prog_4_method_5_code
def yX2_stepKind : MethodName := ⟨RX2, "stepKind", "(LHollowWall$Text;)I"⟩
abbrev cX2_readRest : ByteArray := prog_4_method_6_code
def yX2_readRest : MethodName := ⟨RX2, "readRest", "(LHollowWall$Text;I)Z"⟩
abbrev cX2_readTest : ByteArray := prog_4_method_7_code
def yX2_readTest : MethodName := ⟨RX2, "readTest", "(LHollowWall$Text;I)Z"⟩
abbrev cX2_testKind : ByteArray := prog_4_method_8_code
def yX2_testKind : MethodName := ⟨RX2, "testKind", "(LHollowWall$Text;)I"⟩
abbrev cX2_compareKind : ByteArray := prog_4_method_9_code
def yX2_compareKind : MethodName := ⟨RX2, "compareKind", "(LHollowWall$Text;)I"⟩
def RX3 : String := "HollowWall$Site"
def TX3 : u_T := fun k => match k with
  | 0 => ("HollowWall$Site", "wall", "LHollowWall$Wall;", true)
  | 1 => ("HollowWall$Site", "notes", "[I", true)
  | 2 => ("HollowWall$Site", "round", "LHollowWall$Round;", true)
  | 3 => ("HollowWall$Site", "hasRound", "Z", false)
  | _ => ("HollowWall$Site", "hammer", "I", false)
def tyX3 : Nat → FieldType := fun k => match k with
  | 0 => .object "HollowWall$Wall"
  | 1 => .array .int
  | 2 => .object "HollowWall$Round"
  | 3 => .boolean
  | _ => .int
abbrev wsX30 : List Cond := u_ws RX3 TX3 5
theorem nmX3 : ∀ a, a < 5 → ∀ b, b < 5 → a ≠ b → (TX3 a).2.1 ≠ (TX3 b).2.1 := by decide +kernel
theorem tyX3_ok : ∀ k, k < 5 → parseFieldDescriptor (TX3 k).2.2.1 = some (tyX3 k) := by decide +kernel
abbrev cX3_init : ByteArray := prog_5_method_1_code
def yX3_init : MethodName := ⟨RX3, "<init>", "()V"⟩
abbrev cX3_copyFrom : ByteArray := prog_5_method_2_code
def yX3_copyFrom : MethodName := ⟨RX3, "copyFrom", "(LHollowWall$Site;)V"⟩
abbrev cX3_build : ByteArray := prog_5_method_3_code
def yX3_build : MethodName := ⟨RX3, "build", "(LHollowWall$Wall;)V"⟩
abbrev cX3_countNotes : ByteArray := prog_5_method_4_code
def yX3_countNotes : MethodName := ⟨RX3, "countNotes", "()I"⟩
abbrev cX3_isOath : ByteArray := prog_5_method_5_code
def yX3_isOath : MethodName := ⟨RX3, "isOath", "(II)Z"⟩
abbrev cX3_isTwice : ByteArray := prog_5_method_6_code
def yX3_isTwice : MethodName := ⟨RX3, "isTwice", "(I)Z"⟩
abbrev cX3_isExplained : ByteArray := prog_5_method_7_code
def yX3_isExplained : MethodName := ⟨RX3, "isExplained", "(III)Z"⟩
def RX4 : String := "HollowWall$Telling"
def TX4 : u_T := fun k => match k with
  | 0 => ("HollowWall$Telling", "hollowIn", "[I", true)
  | 1 => ("HollowWall$Telling", "askedStone", "[I", true)
  | 2 => ("HollowWall$Telling", "asked", "I", false)
  | 3 => ("HollowWall$Telling", "fewest", "[I", true)
  | 4 => ("HollowWall$Telling", "knocks", "I", false)
  | _ => ("HollowWall$Telling", "bestStone", "I", false)
def tyX4 : Nat → FieldType := fun k => match k with
  | 0 => .array .int
  | 1 => .array .int
  | 2 => .int
  | 3 => .array .int
  | 4 => .int
  | _ => .int
abbrev wsX40 : List Cond := u_ws RX4 TX4 6
theorem nmX4 : ∀ a, a < 6 → ∀ b, b < 6 → a ≠ b → (TX4 a).2.1 ≠ (TX4 b).2.1 := by decide +kernel
theorem tyX4_ok : ∀ k, k < 6 → parseFieldDescriptor (TX4 k).2.2.1 = some (tyX4 k) := by decide +kernel
abbrev cX4_init : ByteArray := prog_6_method_1_code
def yX4_init : MethodName := ⟨RX4, "<init>", "()V"⟩
abbrev cX4_plan : ByteArray := prog_6_method_2_code
def yX4_plan : MethodName := ⟨RX4, "plan", "(LHollowWall$Readings;)V"⟩
abbrev cX4_gather : ByteArray := prog_6_method_3_code
def yX4_gather : MethodName := ⟨RX4, "gather", "(LHollowWall$Readings;I)V"⟩
abbrev cX4_chooseStones : ByteArray := prog_6_method_4_code
def yX4_chooseStones : MethodName := ⟨RX4, "chooseStones", "(II)V"⟩
abbrev cX4_isAsked : ByteArray := prog_6_method_5_code
def yX4_isAsked : MethodName := ⟨RX4, "isAsked", "(II)Z"⟩
abbrev cX4_neededBy : ByteArray := prog_6_method_6_code
def yX4_neededBy : MethodName := ⟨RX4, "neededBy", "(II)I"⟩
abbrev cX4_fewestFor : ByteArray := prog_6_method_7_code
def yX4_fewestFor : MethodName := ⟨RX4, "fewestFor", "(I)I"⟩
abbrev cX4_bestFor : ByteArray := prog_6_method_8_code
def yX4_bestFor : MethodName := ⟨RX4, "bestFor", "(I)I"⟩
def RX5 : String := "HollowWall$Text"
def TX5 : u_T := fun k => match k with
  | 0 => ("HollowWall$Text", "bytes", "[B", true)
  | 1 => ("HollowWall$Text", "length", "I", false)
  | 2 => ("HollowWall$Text", "faultKind", "I", false)
  | 3 => ("HollowWall$Text", "faultPlace", "I", false)
  | 4 => ("HollowWall$Text", "kind", "I", false)
  | 5 => ("HollowWall$Text", "start", "I", false)
  | 6 => ("HollowWall$Text", "next", "I", false)
  | 7 => ("HollowWall$Text", "textLength", "I", false)
  | 8 => ("HollowWall$Text", "value", "I", false)
  | _ => ("HollowWall$Text", "numberPlace", "I", false)
def tyX5 : Nat → FieldType := fun k => match k with
  | 0 => .array .byte
  | 1 => .int
  | 2 => .int
  | 3 => .int
  | 4 => .int
  | 5 => .int
  | 6 => .int
  | 7 => .int
  | 8 => .int
  | _ => .int
abbrev wsX50 : List Cond := u_ws RX5 TX5 10
theorem nmX5 : ∀ a, a < 10 → ∀ b, b < 10 → a ≠ b → (TX5 a).2.1 ≠ (TX5 b).2.1 := by decide +kernel
theorem tyX5_ok : ∀ k, k < 10 → parseFieldDescriptor (TX5 k).2.2.1 = some (tyX5 k) := by decide +kernel
abbrev cX5_init : ByteArray := prog_7_method_1_code
def yX5_init : MethodName := ⟨RX5, "<init>", "()V"⟩
abbrev cX5_append : ByteArray := prog_7_method_2_code
def yX5_append : MethodName := ⟨RX5, "append", "(I)V"⟩
abbrev cX5_begin : ByteArray := prog_7_method_3_code
def yX5_begin : MethodName := ⟨RX5, "begin", "(I)V"⟩
abbrev cX5_advance : ByteArray := prog_7_method_4_code
def yX5_advance : MethodName := ⟨RX5, "advance", "()V"⟩
abbrev cX5_passToken : ByteArray := prog_7_method_5_code
def yX5_passToken : MethodName := ⟨RX5, "passToken", "(I)V"⟩
abbrev cX5_isWord : ByteArray := prog_7_method_6_code
def yX5_isWord : MethodName := ⟨RX5, "isWord", "(Ljava/lang/String;)Z"⟩
abbrev cX5_isSign : ByteArray := prog_7_method_7_code
def yX5_isSign : MethodName := ⟨RX5, "isSign", "(I)Z"⟩
abbrev cX5_isName : ByteArray := prog_7_method_8_code
def yX5_isName : MethodName := ⟨RX5, "isName", "()Z"⟩
abbrev cX5_isReservedFrom : ByteArray := prog_7_method_9_code
def yX5_isReservedFrom : MethodName := ⟨RX5, "isReservedFrom", "(I)Z"⟩
abbrev cX5_faultAt : ByteArray := prog_7_method_10_code
def yX5_faultAt : MethodName := ⟨RX5, "faultAt", "(II)Z"⟩
abbrev cX5_faultHere : ByteArray := prog_7_method_11_code
def yX5_faultHere : MethodName := ⟨RX5, "faultHere", "(I)Z"⟩
abbrev cX5_misplaced : ByteArray := prog_7_method_12_code
def yX5_misplaced : MethodName := ⟨RX5, "misplaced", "()Z"⟩
abbrev cX5_takeWord : ByteArray := prog_7_method_13_code
def yX5_takeWord : MethodName := ⟨RX5, "takeWord", "(Ljava/lang/String;)Z"⟩
abbrev cX5_takeSemicolon : ByteArray := prog_7_method_14_code
def yX5_takeSemicolon : MethodName := ⟨RX5, "takeSemicolon", "()Z"⟩
abbrev cX5_takeNumber : ByteArray := prog_7_method_15_code
def yX5_takeNumber : MethodName := ⟨RX5, "takeNumber", "(II)I"⟩
abbrev cX5_faultAtNumber : ByteArray := prog_7_method_16_code
def yX5_faultAtNumber : MethodName := ⟨RX5, "faultAtNumber", "(I)Z"⟩
def RX6 : String := "HollowWall$Tray"
def TX6 : u_T := fun k => match k with
  | 0 => ("HollowWall$Tray", "numbers", "[J", true)
  | 1 => ("HollowWall$Tray", "missing", "Z", false)
  | 2 => ("HollowWall$Tray", "sort", "I", false)
  | _ => ("HollowWall$Tray", "length", "I", false)
def tyX6 : Nat → FieldType := fun k => match k with
  | 0 => .array .long
  | 1 => .boolean
  | 2 => .int
  | _ => .int
abbrev wsX60 : List Cond := u_ws RX6 TX6 4
theorem nmX6 : ∀ a, a < 4 → ∀ b, b < 4 → a ≠ b → (TX6 a).2.1 ≠ (TX6 b).2.1 := by decide +kernel
theorem tyX6_ok : ∀ k, k < 4 → parseFieldDescriptor (TX6 k).2.2.1 = some (tyX6 k) := by decide +kernel
abbrev cX6_init : ByteArray := prog_8_method_1_code
def yX6_init : MethodName := ⟨RX6, "<init>", "()V"⟩
abbrev cX6_lay : ByteArray := prog_8_method_2_code
def yX6_lay : MethodName := ⟨RX6, "lay", "(II)V"⟩
abbrev cX6_put : ByteArray := prog_8_method_3_code
def yX6_put : MethodName := ⟨RX6, "put", "(IJ)V"⟩
abbrev cX6_hasPlace : ByteArray := prog_8_method_4_code
def yX6_hasPlace : MethodName := ⟨RX6, "hasPlace", "(I)Z"⟩
abbrev cX6_hasRow : ByteArray := prog_8_method_5_code
def yX6_hasRow : MethodName := ⟨RX6, "hasRow", "(II)Z"⟩
def RX7 : String := "HollowWall$Walker"
def TX7 : u_T := fun k => match k with
  | 0 => ("HollowWall$Walker", "notes", "[I", true)
  | 1 => ("HollowWall$Walker", "timesLeft", "[I", true)
  | 2 => ("HollowWall$Walker", "draw", "I", false)
  | 3 => ("HollowWall$Walker", "errors", "I", false)
  | 4 => ("HollowWall$Walker", "heard", "I", false)
  | 5 => ("HollowWall$Walker", "at", "I", false)
  | 6 => ("HollowWall$Walker", "hasRun", "Z", false)
  | 7 => ("HollowWall$Walker", "steps", "I", false)
  | 8 => ("HollowWall$Walker", "knocks", "I", false)
  | 9 => ("HollowWall$Walker", "heardWrong", "I", false)
  | 10 => ("HollowWall$Walker", "notesMade", "I", false)
  | _ => ("HollowWall$Walker", "isStepLeft", "Z", false)
def tyX7 : Nat → FieldType := fun k => match k with
  | 0 => .array .int
  | 1 => .array .int
  | 2 => .int
  | 3 => .int
  | 4 => .int
  | 5 => .int
  | 6 => .boolean
  | 7 => .int
  | 8 => .int
  | 9 => .int
  | 10 => .int
  | _ => .boolean
abbrev wsX70 : List Cond := u_ws RX7 TX7 12
theorem nmX7 : ∀ a, a < 12 → ∀ b, b < 12 → a ≠ b → (TX7 a).2.1 ≠ (TX7 b).2.1 := by decide +kernel
theorem tyX7_ok : ∀ k, k < 12 → parseFieldDescriptor (TX7 k).2.2.1 = some (tyX7 k) := by decide +kernel
abbrev cX7_init : ByteArray := prog_9_method_1_code
def yX7_init : MethodName := ⟨RX7, "<init>", "()V"⟩
abbrev cX7_run : ByteArray := prog_9_method_2_code
def yX7_run : MethodName := ⟨RX7, "run", "(LHollowWall$Site;II)V"⟩
abbrev cX7_begin : ByteArray := prog_9_method_3_code
def yX7_begin : MethodName := ⟨RX7, "begin", "(LHollowWall$Site;II)V"⟩
abbrev cX7_behindEnd : ByteArray := prog_9_method_4_code
def yX7_behindEnd : MethodName := ⟨RX7, "behindEnd", "(LHollowWall$Round;I)I"⟩
abbrev cX7_behindStep : ByteArray := prog_9_method_5_code
def yX7_behindStep : MethodName := ⟨RX7, "behindStep", "(LHollowWall$Site;I)I"⟩
abbrev cX7_listen : ByteArray := prog_9_method_6_code
def yX7_listen : MethodName := ⟨RX7, "listen", "(Z)V"⟩
abbrev cX7_writeDown : ByteArray := prog_9_method_7_code
def yX7_writeDown : MethodName := ⟨RX7, "writeDown", "()V"⟩
abbrev cX7_holds : ByteArray := prog_9_method_8_code
def yX7_holds : MethodName := ⟨RX7, "holds", "(LHollowWall$Wall;II)Z"⟩
def RX8 : String := "HollowWall$Wall"
def TX8 : u_T := fun k => match k with
  | 0 => ("HollowWall$Wall", "oath", "I", false)
  | 1 => ("HollowWall$Wall", "first", "I", false)
  | 2 => ("HollowWall$Wall", "stones", "I", false)
  | 3 => ("HollowWall$Wall", "courses", "I", false)
  | 4 => ("HollowWall$Wall", "masons", "I", false)
  | 5 => ("HollowWall$Wall", "slips", "I", false)
  | 6 => ("HollowWall$Wall", "finds", "I", false)
  | 7 => ("HollowWall$Wall", "courseStart", "[I", true)
  | 8 => ("HollowWall$Wall", "lays", "[I", true)
  | 9 => ("HollowWall$Wall", "costs", "[I", true)
  | 10 => ("HollowWall$Wall", "laidFrom", "[I", true)
  | 11 => ("HollowWall$Wall", "laidMany", "[I", true)
  | 12 => ("HollowWall$Wall", "courseOf", "[I", true)
  | 13 => ("HollowWall$Wall", "laidBy", "[I", true)
  | 14 => ("HollowWall$Wall", "slipCost", "[I", true)
  | 15 => ("HollowWall$Wall", "slipBy", "[I", true)
  | 16 => ("HollowWall$Wall", "findYear", "[I", true)
  | 17 => ("HollowWall$Wall", "trueCount", "[I", true)
  | _ => ("HollowWall$Wall", "swornCount", "[I", true)
def tyX8 : Nat → FieldType := fun k => match k with
  | 0 => .int
  | 1 => .int
  | 2 => .int
  | 3 => .int
  | 4 => .int
  | 5 => .int
  | 6 => .int
  | 7 => .array .int
  | 8 => .array .int
  | 9 => .array .int
  | 10 => .array .int
  | 11 => .array .int
  | 12 => .array .int
  | 13 => .array .int
  | 14 => .array .int
  | 15 => .array .int
  | 16 => .array .int
  | 17 => .array .int
  | _ => .array .int
abbrev wsX80 : List Cond := u_ws RX8 TX8 19
theorem nmX8 : ∀ a, a < 19 → ∀ b, b < 19 → a ≠ b → (TX8 a).2.1 ≠ (TX8 b).2.1 := by decide +kernel
theorem tyX8_ok : ∀ k, k < 19 → parseFieldDescriptor (TX8 k).2.2.1 = some (tyX8 k) := by decide +kernel
abbrev cX8_init : ByteArray := prog_10_method_1_code
def yX8_init : MethodName := ⟨RX8, "<init>", "()V"⟩
abbrev cX8_wipe : ByteArray := prog_10_method_2_code
def yX8_wipe : MethodName := ⟨RX8, "wipe", "()V"⟩
abbrev cX8_copyFrom : ByteArray := prog_10_method_3_code
def yX8_copyFrom : MethodName := ⟨RX8, "copyFrom", "(LHollowWall$Wall;)V"⟩
abbrev cX8_hasStone : ByteArray := prog_10_method_4_code
def yX8_hasStone : MethodName := ⟨RX8, "hasStone", "(I)Z"⟩
abbrev cX8_hasMason : ByteArray := prog_10_method_5_code
def yX8_hasMason : MethodName := ⟨RX8, "hasMason", "(I)Z"⟩
abbrev cX8_addCourse : ByteArray := prog_10_method_6_code
def yX8_addCourse : MethodName := ⟨RX8, "addCourse", "(I)V"⟩
abbrev cX8_addMason : ByteArray := prog_10_method_7_code
def yX8_addMason : MethodName := ⟨RX8, "addMason", "(II)V"⟩
abbrev cX8_addSlip : ByteArray := prog_10_method_8_code
def yX8_addSlip : MethodName := ⟨RX8, "addSlip", "(II)V"⟩
abbrev cX8_addFind : ByteArray := prog_10_method_9_code
def yX8_addFind : MethodName := ⟨RX8, "addFind", "(II)V"⟩
abbrev cX8_settle : ByteArray := prog_10_method_10_code
def yX8_settle : MethodName := ⟨RX8, "settle", "()V"⟩
abbrev cX8_layByMasons : ByteArray := prog_10_method_11_code
def yX8_layByMasons : MethodName := ⟨RX8, "layByMasons", "()V"⟩
abbrev cX8_countStones : ByteArray := prog_10_method_12_code
def yX8_countStones : MethodName := ⟨RX8, "countStones", "()V"⟩
abbrev cX8_isHollow : ByteArray := prog_10_method_13_code
def yX8_isHollow : MethodName := ⟨RX8, "isHollow", "(I)Z"⟩
abbrev cX8_isSwornHollow : ByteArray := prog_10_method_14_code
def yX8_isSwornHollow : MethodName := ⟨RX8, "isSwornHollow", "(I)Z"⟩
abbrev cX8_isCourseStart : ByteArray := prog_10_method_15_code
def yX8_isCourseStart : MethodName := ⟨RX8, "isCourseStart", "(I)Z"⟩
abbrev cX8_placeInCourse : ByteArray := prog_10_method_16_code
def yX8_placeInCourse : MethodName := ⟨RX8, "placeInCourse", "(I)I"⟩
abbrev cX8_nextCourseStart : ByteArray := prog_10_method_17_code
def yX8_nextCourseStart : MethodName := ⟨RX8, "nextCourseStart", "(I)I"⟩
abbrev cX8_slipsOf : ByteArray := prog_10_method_18_code
def yX8_slipsOf : MethodName := ⟨RX8, "slipsOf", "(I)I"⟩
abbrev cX8_toldCost : ByteArray := prog_10_method_19_code
def yX8_toldCost : MethodName := ⟨RX8, "toldCost", "(I)I"⟩
abbrev cX8_toldCostOf : ByteArray := prog_10_method_20_code
def yX8_toldCostOf : MethodName := ⟨RX8, "toldCostOf", "(I)I"⟩
abbrev cX8_isHollowFind : ByteArray := prog_10_method_21_code
def yX8_isHollowFind : MethodName := ⟨RX8, "isHollowFind", "(I)Z"⟩
abbrev cX8_yearAhead : ByteArray := prog_10_method_22_code
def yX8_yearAhead : MethodName := ⟨RX8, "yearAhead", "(I)I"⟩
abbrev cX8_yearBehind : ByteArray := prog_10_method_23_code
def yX8_yearBehind : MethodName := ⟨RX8, "yearBehind", "(I)I"⟩
def RX9 : String := "HollowWall$WallReader"
def TX9 : u_T := fun k => match k with
  | 0 => ("HollowWall$WallReader", "wall", "LHollowWall$Wall;", true)
  | 1 => ("HollowWall$WallReader", "nameStart", "[I", true)
  | 2 => ("HollowWall$WallReader", "nameLength", "[I", true)
  | _ => ("HollowWall$WallReader", "lastSlip", "I", false)
def tyX9 : Nat → FieldType := fun k => match k with
  | 0 => .object "HollowWall$Wall"
  | 1 => .array .int
  | 2 => .array .int
  | _ => .int
abbrev wsX90 : List Cond := u_ws RX9 TX9 4
theorem nmX9 : ∀ a, a < 4 → ∀ b, b < 4 → a ≠ b → (TX9 a).2.1 ≠ (TX9 b).2.1 := by decide +kernel
theorem tyX9_ok : ∀ k, k < 4 → parseFieldDescriptor (TX9 k).2.2.1 = some (tyX9 k) := by decide +kernel
abbrev cX9_init : ByteArray := prog_11_method_1_code
def yX9_init : MethodName := ⟨RX9, "<init>", "()V"⟩
abbrev cX9_readWall : ByteArray := prog_11_method_2_code
def yX9_readWall : MethodName := ⟨RX9, "readWall", "(LHollowWall$Text;I)Z"⟩
abbrev cX9_readOath : ByteArray := prog_11_method_3_code
def yX9_readOath : MethodName := ⟨RX9, "readOath", "(LHollowWall$Text;)Z"⟩
abbrev cX9_readCourse : ByteArray := prog_11_method_4_code
def yX9_readCourse : MethodName := ⟨RX9, "readCourse", "(LHollowWall$Text;)Z"⟩
abbrev cX9_readMason : ByteArray := prog_11_method_5_code
def yX9_readMason : MethodName := ⟨RX9, "readMason", "(LHollowWall$Text;)Z"⟩
abbrev cX9_takeName : ByteArray := prog_11_method_6_code
def yX9_takeName : MethodName := ⟨RX9, "takeName", "(LHollowWall$Text;)Z"⟩
abbrev cX9_isSame : ByteArray := prog_11_method_7_code
def yX9_isSame : MethodName := ⟨RX9, "isSame", "([BIII)Z"⟩
abbrev cX9_readSlip : ByteArray := prog_11_method_8_code
def yX9_readSlip : MethodName := ⟨RX9, "readSlip", "(LHollowWall$Text;)Z"⟩
abbrev cX9_readFind : ByteArray := prog_11_method_9_code
def yX9_readFind : MethodName := ⟨RX9, "readFind", "(LHollowWall$Text;)Z"⟩
def RX10 : String := "HollowWall"
def TX10 : u_T := fun k => match k with
  | 0 => ("HollowWall", "status", "I", false)
  | 1 => ("HollowWall", "top", "J", false)
  | 2 => ("HollowWall", "bottom", "J", false)
  | 3 => ("HollowWall", "trays", "[LHollowWall$Tray;", true)
  | 4 => ("HollowWall", "text", "LHollowWall$Text;", true)
  | 5 => ("HollowWall", "site", "LHollowWall$Site;", true)
  | 6 => ("HollowWall", "marks", "[LHollowWall$Site;", true)
  | 7 => ("HollowWall", "markCount", "I", false)
  | 8 => ("HollowWall", "wallReader", "LHollowWall$WallReader;", true)
  | 9 => ("HollowWall", "roundReader", "LHollowWall$RoundReader;", true)
  | 10 => ("HollowWall", "readings", "LHollowWall$Readings;", true)
  | 11 => ("HollowWall", "teller", "LHollowWall$Telling;", true)
  | 12 => ("HollowWall", "walker", "LHollowWall$Walker;", true)
  | 13 => ("HollowWall", "trial", "LHollowWall$Walker;", true)
  | 14 => ("HollowWall", "explainedFirst", "I", false)
  | 15 => ("HollowWall", "explainedSlips", "I", false)
  | 16 => ("HollowWall", "explainedStone", "[I", true)
  | 17 => ("HollowWall", "explainedBy", "[I", true)
  | _ => ("HollowWall", "rowUpTo", "[I", true)
def tyX10 : Nat → FieldType := fun k => match k with
  | 0 => .int
  | 1 => .long
  | 2 => .long
  | 3 => .array (.object "HollowWall$Tray")
  | 4 => .object "HollowWall$Text"
  | 5 => .object "HollowWall$Site"
  | 6 => .array (.object "HollowWall$Site")
  | 7 => .int
  | 8 => .object "HollowWall$WallReader"
  | 9 => .object "HollowWall$RoundReader"
  | 10 => .object "HollowWall$Readings"
  | 11 => .object "HollowWall$Telling"
  | 12 => .object "HollowWall$Walker"
  | 13 => .object "HollowWall$Walker"
  | 14 => .int
  | 15 => .int
  | 16 => .array .int
  | 17 => .array .int
  | _ => .array .int
abbrev wsX100 : List Cond := u_ws RX10 TX10 19
theorem nmX10 : ∀ a, a < 19 → ∀ b, b < 19 → a ≠ b → (TX10 a).2.1 ≠ (TX10 b).2.1 := by decide +kernel
theorem tyX10_ok : ∀ k, k < 19 → parseFieldDescriptor (TX10 k).2.2.1 = some (tyX10 k) := by decide +kernel
abbrev cX10_init : ByteArray := prog_1_method_1_code
def yX10_init : MethodName := ⟨RX10, "<init>", "()V"⟩
abbrev cX10_status : ByteArray := prog_1_method_2_code
def yX10_status : MethodName := ⟨RX10, "status", "()I"⟩
abbrev cX10_top : ByteArray := prog_1_method_3_code
def yX10_top : MethodName := ⟨RX10, "top", "()J"⟩
abbrev cX10_bottom : ByteArray := prog_1_method_4_code
def yX10_bottom : MethodName := ⟨RX10, "bottom", "()J"⟩
abbrev cX10_answer : ByteArray := prog_1_method_5_code
def yX10_answer : MethodName := ⟨RX10, "answer", "(I)I"⟩
abbrev cX10_refuse : ByteArray := prog_1_method_6_code
def yX10_refuse : MethodName := ⟨RX10, "refuse", "(I)I"⟩
abbrev cX10_accept : ByteArray := prog_1_method_7_code
def yX10_accept : MethodName := ⟨RX10, "accept", "()Z"⟩
abbrev cX10_deny : ByteArray := prog_1_method_8_code
def yX10_deny : MethodName := ⟨RX10, "deny", "(I)Z"⟩
abbrev cX10_answerOrNothing : ByteArray := prog_1_method_9_code
def yX10_answerOrNothing : MethodName := ⟨RX10, "answerOrNothing", "(I)I"⟩
abbrev cX10_tellFraction : ByteArray := prog_1_method_10_code
def yX10_tellFraction : MethodName := ⟨RX10, "tellFraction", "(JJ)V"⟩
abbrev cX10_isWithin : ByteArray := prog_1_method_11_code
def yX10_isWithin : MethodName := ⟨RX10, "isWithin", "(III)Z"⟩
abbrev cX10_trayAt : ByteArray := prog_1_method_12_code
def yX10_trayAt : MethodName := ⟨RX10, "trayAt", "(I)LHollowWall$Tray;"⟩
abbrev cX10_placeStatus : ByteArray := prog_1_method_13_code
def yX10_placeStatus : MethodName := ⟨RX10, "placeStatus", "(LHollowWall$Tray;I)I"⟩
abbrev cX10_tray : ByteArray := prog_1_method_14_code
def yX10_tray : MethodName := ⟨RX10, "tray", "(III)Z"⟩
abbrev cX10_write : ByteArray := prog_1_method_15_code
def yX10_write : MethodName := ⟨RX10, "write", "(IIJ)Z"⟩
abbrev cX10_read : ByteArray := prog_1_method_16_code
def yX10_read : MethodName := ⟨RX10, "read", "(II)J"⟩
abbrev cX10_pour : ByteArray := prog_1_method_17_code
def yX10_pour : MethodName := ⟨RX10, "pour", "(IIIII)Z"⟩
abbrev cX10_feed : ByteArray := prog_1_method_18_code
def yX10_feed : MethodName := ⟨RX10, "feed", "(IIIII)I"⟩
abbrev cX10_wall : ByteArray := prog_1_method_19_code
def yX10_wall : MethodName := ⟨RX10, "wall", "(I)I"⟩
abbrev cX10_round : ByteArray := prog_1_method_20_code
def yX10_round : MethodName := ⟨RX10, "round", "(I)I"⟩
abbrev cX10_fault : ByteArray := prog_1_method_21_code
def yX10_fault : MethodName := ⟨RX10, "fault", "(I)I"⟩
abbrev cX10_many : ByteArray := prog_1_method_22_code
def yX10_many : MethodName := ⟨RX10, "many", "(I)I"⟩
abbrev cX10_stone : ByteArray := prog_1_method_23_code
def yX10_stone : MethodName := ⟨RX10, "stone", "(II)I"⟩
abbrev cX10_mason : ByteArray := prog_1_method_24_code
def yX10_mason : MethodName := ⟨RX10, "mason", "(II)I"⟩
abbrev cX10_hollows : ByteArray := prog_1_method_25_code
def yX10_hollows : MethodName := ⟨RX10, "hollows", "(II)I"⟩
abbrev cX10_hollowAt : ByteArray := prog_1_method_26_code
def yX10_hollowAt : MethodName := ⟨RX10, "hollowAt", "(I)I"⟩
abbrev cX10_nextHollow : ByteArray := prog_1_method_27_code
def yX10_nextHollow : MethodName := ⟨RX10, "nextHollow", "(I)I"⟩
abbrev cX10_gap : ByteArray := prog_1_method_28_code
def yX10_gap : MethodName := ⟨RX10, "gap", "()I"⟩
abbrev cX10_shift : ByteArray := prog_1_method_29_code
def yX10_shift : MethodName := ⟨RX10, "shift", "(I)I"⟩
abbrev cX10_price : ByteArray := prog_1_method_30_code
def yX10_price : MethodName := ⟨RX10, "price", "()I"⟩
abbrev cX10_dearest : ByteArray := prog_1_method_31_code
def yX10_dearest : MethodName := ⟨RX10, "dearest", "()I"⟩
abbrev cX10_astray : ByteArray := prog_1_method_32_code
def yX10_astray : MethodName := ⟨RX10, "astray", "()I"⟩
abbrev cX10_knock : ByteArray := prog_1_method_33_code
def yX10_knock : MethodName := ⟨RX10, "knock", "(I)I"⟩
abbrev cX10_note : ByteArray := prog_1_method_34_code
def yX10_note : MethodName := ⟨RX10, "note", "(II)Z"⟩
abbrev cX10_clear : ByteArray := prog_1_method_35_code
def yX10_clear : MethodName := ⟨RX10, "clear", "()I"⟩
abbrev cX10_wrong : ByteArray := prog_1_method_36_code
def yX10_wrong : MethodName := ⟨RX10, "wrong", "()I"⟩
abbrev cX10_agrees : ByteArray := prog_1_method_37_code
def yX10_agrees : MethodName := ⟨RX10, "agrees", "(IZ)Z"⟩
abbrev cX10_least : ByteArray := prog_1_method_38_code
def yX10_least : MethodName := ⟨RX10, "least", "(Z)I"⟩
abbrev cX10_ways : ByteArray := prog_1_method_39_code
def yX10_ways : MethodName := ⟨RX10, "ways", "(Z)I"⟩
abbrev cX10_explain : ByteArray := prog_1_method_40_code
def yX10_explain : MethodName := ⟨RX10, "explain", "(Z)I"⟩
abbrev cX10_slipAt : ByteArray := prog_1_method_41_code
def yX10_slipAt : MethodName := ⟨RX10, "slipAt", "(II)I"⟩
abbrev cX10_firstCount : ByteArray := prog_1_method_42_code
def yX10_firstCount : MethodName := ⟨RX10, "firstCount", "()I"⟩
abbrev cX10_sure : ByteArray := prog_1_method_43_code
def yX10_sure : MethodName := ⟨RX10, "sure", "(IZ)I"⟩
abbrev cX10_blame : ByteArray := prog_1_method_44_code
def yX10_blame : MethodName := ⟨RX10, "blame", "(IZ)Z"⟩
abbrev cX10_telling : ByteArray := prog_1_method_45_code
def yX10_telling : MethodName := ⟨RX10, "telling", "(ZI)I"⟩
abbrev cX10_oaths : ByteArray := prog_1_method_46_code
def yX10_oaths : MethodName := ⟨RX10, "oaths", "()I"⟩
abbrev cX10_oathAt : ByteArray := prog_1_method_47_code
def yX10_oathAt : MethodName := ⟨RX10, "oathAt", "(II)I"⟩
abbrev cX10_bestKnock : ByteArray := prog_1_method_48_code
def yX10_bestKnock : MethodName := ⟨RX10, "bestKnock", "(Z)I"⟩
abbrev cX10_twice : ByteArray := prog_1_method_49_code
def yX10_twice : MethodName := ⟨RX10, "twice", "()I"⟩
abbrev cX10_twiceAt : ByteArray := prog_1_method_50_code
def yX10_twiceAt : MethodName := ⟨RX10, "twiceAt", "(I)I"⟩
abbrev cX10_fits : ByteArray := prog_1_method_51_code
def yX10_fits : MethodName := ⟨RX10, "fits", "(III)I"⟩
abbrev cX10_isPiece : ByteArray := prog_1_method_52_code
def yX10_isPiece : MethodName := ⟨RX10, "isPiece", "(LHollowWall$Tray;I)Z"⟩
abbrev cX10_fitsFrom : ByteArray := prog_1_method_53_code
def yX10_fitsFrom : MethodName := ⟨RX10, "fitsFrom", "(LHollowWall$Tray;II)Z"⟩
abbrev cX10_isCount : ByteArray := prog_1_method_54_code
def yX10_isCount : MethodName := ⟨RX10, "isCount", "(II)Z"⟩
abbrev cX10_countBehind : ByteArray := prog_1_method_55_code
def yX10_countBehind : MethodName := ⟨RX10, "countBehind", "(II)I"⟩
abbrev cX10_both : ByteArray := prog_1_method_56_code
def yX10_both : MethodName := ⟨RX10, "both", "(IIII)I"⟩
abbrev cX10_join : ByteArray := prog_1_method_57_code
def yX10_join : MethodName := ⟨RX10, "join", "(III)I"⟩
abbrev cX10_years : ByteArray := prog_1_method_58_code
def yX10_years : MethodName := ⟨RX10, "years", "()I"⟩
abbrev cX10_against : ByteArray := prog_1_method_59_code
def yX10_against : MethodName := ⟨RX10, "against", "()I"⟩
abbrev cX10_dated : ByteArray := prog_1_method_60_code
def yX10_dated : MethodName := ⟨RX10, "dated", "(II)I"⟩
abbrev cX10_hammer : ByteArray := prog_1_method_61_code
def yX10_hammer : MethodName := ⟨RX10, "hammer", "(I)Z"⟩
abbrev cX10_canWalk : ByteArray := prog_1_method_62_code
def yX10_canWalk : MethodName := ⟨RX10, "canWalk", "()Z"⟩
abbrev cX10_walk : ByteArray := prog_1_method_63_code
def yX10_walk : MethodName := ⟨RX10, "walk", "(II)I"⟩
abbrev cX10_walked : ByteArray := prog_1_method_64_code
def yX10_walked : MethodName := ⟨RX10, "walked", "(I)I"⟩
abbrev cX10_odds : ByteArray := prog_1_method_65_code
def yX10_odds : MethodName := ⟨RX10, "odds", "(III)Z"⟩
abbrev cX10_isAllTrue : ByteArray := prog_1_method_66_code
def yX10_isAllTrue : MethodName := ⟨RX10, "isAllTrue", "([I)Z"⟩
abbrev cX10_mark : ByteArray := prog_1_method_67_code
def yX10_mark : MethodName := ⟨RX10, "mark", "()I"⟩
abbrev cX10_back : ByteArray := prog_1_method_68_code
def yX10_back : MethodName := ⟨RX10, "back", "()I"⟩
def RX11 : String := "HollowWallModel"
def TX11 : u_T := fun k => match k with
  | 0 => ("HollowWallModel", "status", "I", false)
  | 1 => ("HollowWallModel", "thrown", "I", false)
  | 2 => ("HollowWallModel", "above", "J", false)
  | 3 => ("HollowWallModel", "under", "J", false)
  | 4 => ("HollowWallModel", "traySort", "[I", true)
  | 5 => ("HollowWallModel", "trayMany", "[I", true)
  | 6 => ("HollowWallModel", "numbers", "[J", true)
  | 7 => ("HollowWallModel", "tape", "[B", true)
  | 8 => ("HollowWallModel", "taped", "I", false)
  | 9 => ("HollowWallModel", "textEnd", "I", false)
  | 10 => ("HollowWallModel", "faultKind", "I", false)
  | 11 => ("HollowWallModel", "faultAt", "I", false)
  | 12 => ("HollowWallModel", "bad", "I", false)
  | 13 => ("HollowWallModel", "badAt", "I", false)
  | 14 => ("HollowWallModel", "token", "I", false)
  | 15 => ("HollowWallModel", "at", "I", false)
  | 16 => ("HollowWallModel", "behind", "I", false)
  | 17 => ("HollowWallModel", "number", "I", false)
  | 18 => ("HollowWallModel", "letters", "I", false)
  | 19 => ("HollowWallModel", "word", "J", false)
  | 20 => ("HollowWallModel", "c", "[I", true)
  | 21 => ("HollowWallModel", "kept", "[I", true)
  | 22 => ("HollowWallModel", "words", "[J", true)
  | 23 => ("HollowWallModel", "markMany", "I", false)
  | 24 => ("HollowWallModel", "counts", "[I", true)
  | 25 => ("HollowWallModel", "fore", "[I", true)
  | 26 => ("HollowWallModel", "aft", "[I", true)
  | 27 => ("HollowWallModel", "slips", "[I", true)
  | 28 => ("HollowWallModel", "waysTo", "[J", true)
  | 29 => ("HollowWallModel", "leastCost", "I", false)
  | 30 => ("HollowWallModel", "toldAt", "[I", true)
  | 31 => ("HollowWallModel", "toldBy", "[I", true)
  | 32 => ("HollowWallModel", "toldMany", "I", false)
  | 33 => ("HollowWallModel", "toldFirst", "I", false)
  | 34 => ("HollowWallModel", "newSteps", "I", false)
  | 35 => ("HollowWallModel", "without", "[J", true)
  | 36 => ("HollowWallModel", "waysFrom", "[J", true)
  | 37 => ("HollowWallModel", "hollow", "[Z", true)
  | 38 => ("HollowWallModel", "knocks", "[I", true)
  | 39 => ("HollowWallModel", "readingCount", "[I", true)
  | 40 => ("HollowWallModel", "readings", "I", false)
  | 41 => ("HollowWallModel", "yearOf", "[I", true)
  | 42 => ("HollowWallModel", "longest", "[I", true)
  | 43 => ("HollowWallModel", "random", "I", false)
  | 44 => ("HollowWallModel", "done", "I", false)
  | 45 => ("HollowWallModel", "knocked", "I", false)
  | 46 => ("HollowWallModel", "misheard", "I", false)
  | 47 => ("HollowWallModel", "notes", "I", false)
  | 48 => ("HollowWallModel", "heard", "I", false)
  | 49 => ("HollowWallModel", "leftOver", "I", false)
  | 50 => ("HollowWallModel", "isOver", "Z", false)
  | 51 => ("HollowWallModel", "hasWalked", "Z", false)
  | _ => ("HollowWallModel", "walkedLast", "[I", true)
def tyX11 : Nat → FieldType := fun k => match k with
  | 0 => .int
  | 1 => .int
  | 2 => .long
  | 3 => .long
  | 4 => .array .int
  | 5 => .array .int
  | 6 => .array .long
  | 7 => .array .byte
  | 8 => .int
  | 9 => .int
  | 10 => .int
  | 11 => .int
  | 12 => .int
  | 13 => .int
  | 14 => .int
  | 15 => .int
  | 16 => .int
  | 17 => .int
  | 18 => .int
  | 19 => .long
  | 20 => .array .int
  | 21 => .array .int
  | 22 => .array .long
  | 23 => .int
  | 24 => .array .int
  | 25 => .array .int
  | 26 => .array .int
  | 27 => .array .int
  | 28 => .array .long
  | 29 => .int
  | 30 => .array .int
  | 31 => .array .int
  | 32 => .int
  | 33 => .int
  | 34 => .int
  | 35 => .array .long
  | 36 => .array .long
  | 37 => .array .boolean
  | 38 => .array .int
  | 39 => .array .int
  | 40 => .int
  | 41 => .array .int
  | 42 => .array .int
  | 43 => .int
  | 44 => .int
  | 45 => .int
  | 46 => .int
  | 47 => .int
  | 48 => .int
  | 49 => .int
  | 50 => .boolean
  | 51 => .boolean
  | _ => .array .int
abbrev wsX110 : List Cond := u_ws RX11 TX11 53
theorem nmX11 : ∀ a, a < 53 → ∀ b, b < 53 → a ≠ b → (TX11 a).2.1 ≠ (TX11 b).2.1 := by decide +kernel
theorem tyX11_ok : ∀ k, k < 53 → parseFieldDescriptor (TX11 k).2.2.1 = some (tyX11 k) := by decide +kernel
abbrev cX11_init : ByteArray := prog_13_method_1_code
def yX11_init : MethodName := ⟨RX11, "<init>", "()V"⟩
abbrev cX11_status : ByteArray := prog_13_method_3_code
def yX11_status : MethodName := ⟨RX11, "status", "()I"⟩
abbrev cX11_top : ByteArray := prog_13_method_4_code
def yX11_top : MethodName := ⟨RX11, "top", "()J"⟩
abbrev cX11_bottom : ByteArray := prog_13_method_5_code
def yX11_bottom : MethodName := ⟨RX11, "bottom", "()J"⟩
abbrev cX11_refuse : ByteArray := prog_13_method_6_code
def yX11_refuse : MethodName := ⟨RX11, "refuse", "(I)I"⟩
abbrev cX11_no : ByteArray := prog_13_method_7_code
def yX11_no : MethodName := ⟨RX11, "no", "(I)Z"⟩
abbrev cX11_isIn : ByteArray := prog_13_method_8_code
def yX11_isIn : MethodName := ⟨RX11, "isIn", "(JJJ)Z"⟩
abbrev cX11_fraction : ByteArray := prog_13_method_9_code
def yX11_fraction : MethodName := ⟨RX11, "fraction", "(JJ)Z"⟩
abbrev cX11_cut : ByteArray := prog_13_method_10_code
def yX11_cut : MethodName := ⟨RX11, "cut", "(IJ)J"⟩
abbrev cX11_tray : ByteArray := prog_13_method_11_code
def yX11_tray : MethodName := ⟨RX11, "tray", "(III)Z"⟩
abbrev cX11_trayed : ByteArray := prog_13_method_12_code
def yX11_trayed : MethodName := ⟨RX11, "trayed", "(I)I"⟩
abbrev cX11_placed : ByteArray := prog_13_method_13_code
def yX11_placed : MethodName := ⟨RX11, "placed", "(II)I"⟩
abbrev cX11_write : ByteArray := prog_13_method_14_code
def yX11_write : MethodName := ⟨RX11, "write", "(IIJ)Z"⟩
abbrev cX11_read : ByteArray := prog_13_method_15_code
def yX11_read : MethodName := ⟨RX11, "read", "(II)J"⟩
abbrev cX11_pour : ByteArray := prog_13_method_16_code
def yX11_pour : MethodName := ⟨RX11, "pour", "(IIIII)Z"⟩
abbrev cX11_numberOf : ByteArray := prog_13_method_17_code
def yX11_numberOf : MethodName := ⟨RX11, "numberOf", "(II)J"⟩
abbrev cX11_isTray : ByteArray := prog_13_method_18_code
def yX11_isTray : MethodName := ⟨RX11, "isTray", "(I)Z"⟩
abbrev cX11_look2 : ByteArray := prog_13_method_19_code
def yX11_look2 : MethodName := ⟨RX11, "look2", "(I)I"⟩
abbrev cX11_isLetter : ByteArray := prog_13_method_20_code
def yX11_isLetter : MethodName := ⟨RX11, "isLetter", "(I)Z"⟩
abbrev cX11_isDigit : ByteArray := prog_13_method_21_code
def yX11_isDigit : MethodName := ⟨RX11, "isDigit", "(I)Z"⟩
abbrev cX11_isSignByte : ByteArray := prog_13_method_22_code
def yX11_isSignByte : MethodName := ⟨RX11, "isSignByte", "(I)Z"⟩
abbrev cX11_next : ByteArray := prog_13_method_23_code
def yX11_next : MethodName := ⟨RX11, "next", "()V"⟩
abbrev cX11_isSign : ByteArray := prog_13_method_24_code
def yX11_isSign : MethodName := ⟨RX11, "isSign", "(I)Z"⟩
abbrev cX11_spelled : ByteArray := prog_13_method_25_code
def yX11_spelled : MethodName := ⟨RX11, "spelled", "(IIIIII)J"⟩
abbrev cX11_isWord : ByteArray := prog_13_method_26_code
def yX11_isWord : MethodName := ⟨RX11, "isWord", "(J)Z"⟩
abbrev cX11_isOath : ByteArray := prog_13_method_27_code
def yX11_isOath : MethodName := ⟨RX11, "isOath", "()Z"⟩
abbrev cX11_isFrom : ByteArray := prog_13_method_28_code
def yX11_isFrom : MethodName := ⟨RX11, "isFrom", "()Z"⟩
abbrev cX11_isCourse : ByteArray := prog_13_method_29_code
def yX11_isCourse : MethodName := ⟨RX11, "isCourse", "()Z"⟩
abbrev cX11_isMason : ByteArray := prog_13_method_30_code
def yX11_isMason : MethodName := ⟨RX11, "isMason", "()Z"⟩
abbrev cX11_isLays : ByteArray := prog_13_method_31_code
def yX11_isLays : MethodName := ⟨RX11, "isLays", "()Z"⟩
abbrev cX11_isCosts : ByteArray := prog_13_method_32_code
def yX11_isCosts : MethodName := ⟨RX11, "isCosts", "()Z"⟩
abbrev cX11_isSlip : ByteArray := prog_13_method_33_code
def yX11_isSlip : MethodName := ⟨RX11, "isSlip", "()Z"⟩
abbrev cX11_isAt : ByteArray := prog_13_method_34_code
def yX11_isAt : MethodName := ⟨RX11, "isAt", "()Z"⟩
abbrev cX11_isBy : ByteArray := prog_13_method_35_code
def yX11_isBy : MethodName := ⟨RX11, "isBy", "()Z"⟩
abbrev cX11_isFind : ByteArray := prog_13_method_36_code
def yX11_isFind : MethodName := ⟨RX11, "isFind", "()Z"⟩
abbrev cX11_isYear : ByteArray := prog_13_method_37_code
def yX11_isYear : MethodName := ⟨RX11, "isYear", "()Z"⟩
abbrev cX11_stepWord : ByteArray := prog_13_method_38_code
def yX11_stepWord : MethodName := ⟨RX11, "stepWord", "()I"⟩
abbrev cX11_testWord : ByteArray := prog_13_method_39_code
def yX11_testWord : MethodName := ⟨RX11, "testWord", "()I"⟩
abbrev cX11_isEnd : ByteArray := prog_13_method_40_code
def yX11_isEnd : MethodName := ⟨RX11, "isEnd", "()Z"⟩
abbrev cX11_isKept : ByteArray := prog_13_method_41_code
def yX11_isKept : MethodName := ⟨RX11, "isKept", "()Z"⟩
abbrev cX11_fail : ByteArray := prog_13_method_42_code
def yX11_fail : MethodName := ⟨RX11, "fail", "(II)V"⟩
abbrev cX11_wrongToken : ByteArray := prog_13_method_43_code
def yX11_wrongToken : MethodName := ⟨RX11, "wrongToken", "()V"⟩
abbrev cX11_must : ByteArray := prog_13_method_44_code
def yX11_must : MethodName := ⟨RX11, "must", "(Z)V"⟩
abbrev cX11_count : ByteArray := prog_13_method_45_code
def yX11_count : MethodName := ⟨RX11, "count", "(II)I"⟩
abbrev cX11_feed : ByteArray := prog_13_method_46_code
def yX11_feed : MethodName := ⟨RX11, "feed", "(IIIII)I"⟩
abbrev cX11_lay : ByteArray := prog_13_method_47_code
def yX11_lay : MethodName := ⟨RX11, "lay", "(I)V"⟩
abbrev cX11_opens : ByteArray := prog_13_method_48_code
def yX11_opens : MethodName := ⟨RX11, "opens", "(II)Z"⟩
abbrev cX11_isWell : ByteArray := prog_13_method_49_code
def yX11_isWell : MethodName := ⟨RX11, "isWell", "()Z"⟩
abbrev cX11_fault : ByteArray := prog_13_method_50_code
def yX11_fault : MethodName := ⟨RX11, "fault", "(I)I"⟩
abbrev cX11_stonesOf : ByteArray := prog_13_method_51_code
def yX11_stonesOf : MethodName := ⟨RX11, "stonesOf", "(I)I"⟩
abbrev cX11_readCourse : ByteArray := prog_13_method_52_code
def yX11_readCourse : MethodName := ⟨RX11, "readCourse", "()V"⟩
abbrev cX11_readMason : ByteArray := prog_13_method_53_code
def yX11_readMason : MethodName := ⟨RX11, "readMason", "()V"⟩
abbrev cX11_readSlip : ByteArray := prog_13_method_54_code
def yX11_readSlip : MethodName := ⟨RX11, "readSlip", "()V"⟩
abbrev cX11_readFind : ByteArray := prog_13_method_55_code
def yX11_readFind : MethodName := ⟨RX11, "readFind", "()V"⟩
abbrev cX11_wall : ByteArray := prog_13_method_56_code
def yX11_wall : MethodName := ⟨RX11, "wall", "(I)I"⟩
abbrev cX11_readTest : ByteArray := prog_13_method_57_code
def yX11_readTest : MethodName := ⟨RX11, "readTest", "(I)V"⟩
abbrev cX11_readStep : ByteArray := prog_13_method_58_code
def yX11_readStep : MethodName := ⟨RX11, "readStep", "(I)V"⟩
abbrev cX11_round : ByteArray := prog_13_method_59_code
def yX11_round : MethodName := ⟨RX11, "round", "(I)I"⟩
abbrev cX11_stones : ByteArray := prog_13_method_60_code
def yX11_stones : MethodName := ⟨RX11, "stones", "()I"⟩
abbrev cX11_isStone : ByteArray := prog_13_method_61_code
def yX11_isStone : MethodName := ⟨RX11, "isStone", "(I)Z"⟩
abbrev cX11_courseOf : ByteArray := prog_13_method_62_code
def yX11_courseOf : MethodName := ⟨RX11, "courseOf", "(I)I"⟩
abbrev cX11_inCourse : ByteArray := prog_13_method_63_code
def yX11_inCourse : MethodName := ⟨RX11, "inCourse", "(I)I"⟩
abbrev cX11_beginOf : ByteArray := prog_13_method_64_code
def yX11_beginOf : MethodName := ⟨RX11, "beginOf", "(I)I"⟩
abbrev cX11_masonOf : ByteArray := prog_13_method_65_code
def yX11_masonOf : MethodName := ⟨RX11, "masonOf", "(I)I"⟩
abbrev cX11_laidBy : ByteArray := prog_13_method_66_code
def yX11_laidBy : MethodName := ⟨RX11, "laidBy", "(I)I"⟩
abbrev cX11_after : ByteArray := prog_13_method_67_code
def yX11_after : MethodName := ⟨RX11, "after", "(II)I"⟩
abbrev cX11_countAll : ByteArray := prog_13_method_68_code
def yX11_countAll : MethodName := ⟨RX11, "countAll", "(Z)V"⟩
abbrev cX11_trueCount : ByteArray := prog_13_method_69_code
def yX11_trueCount : MethodName := ⟨RX11, "trueCount", "(I)I"⟩
abbrev cX11_swornCount : ByteArray := prog_13_method_70_code
def yX11_swornCount : MethodName := ⟨RX11, "swornCount", "(I)I"⟩
abbrev cX11_isHollow : ByteArray := prog_13_method_71_code
def yX11_isHollow : MethodName := ⟨RX11, "isHollow", "(I)Z"⟩
abbrev cX11_noted : ByteArray := prog_13_method_72_code
def yX11_noted : MethodName := ⟨RX11, "noted", "()I"⟩
abbrev cX11_many : ByteArray := prog_13_method_73_code
def yX11_many : MethodName := ⟨RX11, "many", "(I)I"⟩
abbrev cX11_findAt : ByteArray := prog_13_method_74_code
def yX11_findAt : MethodName := ⟨RX11, "findAt", "(I)I"⟩
abbrev cX11_stone : ByteArray := prog_13_method_75_code
def yX11_stone : MethodName := ⟨RX11, "stone", "(II)I"⟩
abbrev cX11_mason : ByteArray := prog_13_method_76_code
def yX11_mason : MethodName := ⟨RX11, "mason", "(II)I"⟩
abbrev cX11_hollows : ByteArray := prog_13_method_77_code
def yX11_hollows : MethodName := ⟨RX11, "hollows", "(II)I"⟩
abbrev cX11_hollowAt : ByteArray := prog_13_method_78_code
def yX11_hollowAt : MethodName := ⟨RX11, "hollowAt", "(I)I"⟩
abbrev cX11_nextHollow : ByteArray := prog_13_method_79_code
def yX11_nextHollow : MethodName := ⟨RX11, "nextHollow", "(I)I"⟩
abbrev cX11_gap : ByteArray := prog_13_method_80_code
def yX11_gap : MethodName := ⟨RX11, "gap", "()I"⟩
abbrev cX11_shift : ByteArray := prog_13_method_81_code
def yX11_shift : MethodName := ⟨RX11, "shift", "(I)I"⟩
abbrev cX11_price : ByteArray := prog_13_method_82_code
def yX11_price : MethodName := ⟨RX11, "price", "()I"⟩
abbrev cX11_dearest : ByteArray := prog_13_method_83_code
def yX11_dearest : MethodName := ⟨RX11, "dearest", "()I"⟩
abbrev cX11_astray : ByteArray := prog_13_method_84_code
def yX11_astray : MethodName := ⟨RX11, "astray", "()I"⟩
abbrev cX11_knock : ByteArray := prog_13_method_85_code
def yX11_knock : MethodName := ⟨RX11, "knock", "(I)I"⟩
abbrev cX11_note : ByteArray := prog_13_method_86_code
def yX11_note : MethodName := ⟨RX11, "note", "(II)Z"⟩
abbrev cX11_clear : ByteArray := prog_13_method_87_code
def yX11_clear : MethodName := ⟨RX11, "clear", "()I"⟩
abbrev cX11_wrong : ByteArray := prog_13_method_88_code
def yX11_wrong : MethodName := ⟨RX11, "wrong", "()I"⟩
abbrev cX11_costAt : ByteArray := prog_13_method_89_code
def yX11_costAt : MethodName := ⟨RX11, "costAt", "(I)I"⟩
abbrev cX11_suits : ByteArray := prog_13_method_90_code
def yX11_suits : MethodName := ⟨RX11, "suits", "(II)Z"⟩
abbrev cX11_cell : ByteArray := prog_13_method_91_code
def yX11_cell : MethodName := ⟨RX11, "cell", "(II)I"⟩
abbrev cX11_step : ByteArray := prog_13_method_92_code
def yX11_step : MethodName := ⟨RX11, "step", "(III)I"⟩
abbrev cX11_explains : ByteArray := prog_13_method_93_code
def yX11_explains : MethodName := ⟨RX11, "explains", "(Z)Z"⟩
abbrev cX11_isOn : ByteArray := prog_13_method_94_code
def yX11_isOn : MethodName := ⟨RX11, "isOn", "(II)Z"⟩
abbrev cX11_allWays : ByteArray := prog_13_method_95_code
def yX11_allWays : MethodName := ⟨RX11, "allWays", "(Z)J"⟩
abbrev cX11_least : ByteArray := prog_13_method_96_code
def yX11_least : MethodName := ⟨RX11, "least", "(Z)I"⟩
abbrev cX11_ways : ByteArray := prog_13_method_97_code
def yX11_ways : MethodName := ⟨RX11, "ways", "(Z)I"⟩
abbrev cX11_explain : ByteArray := prog_13_method_98_code
def yX11_explain : MethodName := ⟨RX11, "explain", "(Z)I"⟩
abbrev cX11_slipAt : ByteArray := prog_13_method_99_code
def yX11_slipAt : MethodName := ⟨RX11, "slipAt", "(II)I"⟩
abbrev cX11_firstCount : ByteArray := prog_13_method_100_code
def yX11_firstCount : MethodName := ⟨RX11, "firstCount", "()I"⟩
abbrev cX11_sure : ByteArray := prog_13_method_101_code
def yX11_sure : MethodName := ⟨RX11, "sure", "(IZ)I"⟩
abbrev cX11_waysWithout : ByteArray := prog_13_method_102_code
def yX11_waysWithout : MethodName := ⟨RX11, "waysWithout", "(I)J"⟩
abbrev cX11_blame : ByteArray := prog_13_method_103_code
def yX11_blame : MethodName := ⟨RX11, "blame", "(IZ)Z"⟩
abbrev cX11_isOathFor : ByteArray := prog_13_method_104_code
def yX11_isOathFor : MethodName := ⟨RX11, "isOathFor", "(II)Z"⟩
abbrev cX11_oaths : ByteArray := prog_13_method_105_code
def yX11_oaths : MethodName := ⟨RX11, "oaths", "()I"⟩
abbrev cX11_oathAt : ByteArray := prog_13_method_106_code
def yX11_oathAt : MethodName := ⟨RX11, "oathAt", "(II)I"⟩
abbrev cX11_countOn : ByteArray := prog_13_method_107_code
def yX11_countOn : MethodName := ⟨RX11, "countOn", "()V"⟩
abbrev cX11_bestKnock : ByteArray := prog_13_method_108_code
def yX11_bestKnock : MethodName := ⟨RX11, "bestKnock", "(Z)I"⟩
abbrev cX11_readFrom : ByteArray := prog_13_method_109_code
def yX11_readFrom : MethodName := ⟨RX11, "readFrom", "(I)V"⟩
abbrev cX11_heardBy : ByteArray := prog_13_method_110_code
def yX11_heardBy : MethodName := ⟨RX11, "heardBy", "(II)I"⟩
abbrev cX11_knocksBy : ByteArray := prog_13_method_111_code
def yX11_knocksBy : MethodName := ⟨RX11, "knocksBy", "(II)I"⟩
abbrev cX11_telling : ByteArray := prog_13_method_112_code
def yX11_telling : MethodName := ⟨RX11, "telling", "(ZI)I"⟩
abbrev cX11_isTwice : ByteArray := prog_13_method_113_code
def yX11_isTwice : MethodName := ⟨RX11, "isTwice", "(I)Z"⟩
abbrev cX11_twice : ByteArray := prog_13_method_114_code
def yX11_twice : MethodName := ⟨RX11, "twice", "()I"⟩
abbrev cX11_twiceAt : ByteArray := prog_13_method_115_code
def yX11_twiceAt : MethodName := ⟨RX11, "twiceAt", "(I)I"⟩
abbrev cX11_fitsAt : ByteArray := prog_13_method_116_code
def yX11_fitsAt : MethodName := ⟨RX11, "fitsAt", "(III)Z"⟩
abbrev cX11_fits : ByteArray := prog_13_method_117_code
def yX11_fits : MethodName := ⟨RX11, "fits", "(III)I"⟩
abbrev cX11_both : ByteArray := prog_13_method_118_code
def yX11_both : MethodName := ⟨RX11, "both", "(IIII)I"⟩
abbrev cX11_join : ByteArray := prog_13_method_119_code
def yX11_join : MethodName := ⟨RX11, "join", "(III)I"⟩
abbrev cX11_yearsFound : ByteArray := prog_13_method_120_code
def yX11_yearsFound : MethodName := ⟨RX11, "yearsFound", "()I"⟩
abbrev cX11_years : ByteArray := prog_13_method_121_code
def yX11_years : MethodName := ⟨RX11, "years", "()I"⟩
abbrev cX11_against : ByteArray := prog_13_method_122_code
def yX11_against : MethodName := ⟨RX11, "against", "()I"⟩
abbrev cX11_dated : ByteArray := prog_13_method_123_code
def yX11_dated : MethodName := ⟨RX11, "dated", "(II)I"⟩
abbrev cX11_hammer : ByteArray := prog_13_method_124_code
def yX11_hammer : MethodName := ⟨RX11, "hammer", "(I)Z"⟩
abbrev cX11_draw : ByteArray := prog_13_method_125_code
def yX11_draw : MethodName := ⟨RX11, "draw", "()I"⟩
abbrev cX11_turns : ByteArray := prog_13_method_126_code
def yX11_turns : MethodName := ⟨RX11, "turns", "()V"⟩
abbrev cX11_doPlain : ByteArray := prog_13_method_127_code
def yX11_doPlain : MethodName := ⟨RX11, "doPlain", "(II)V"⟩
abbrev cX11_isSo : ByteArray := prog_13_method_128_code
def yX11_isSo : MethodName := ⟨RX11, "isSo", "(I)Z"⟩
abbrev cX11_doOne : ByteArray := prog_13_method_129_code
def yX11_doOne : MethodName := ⟨RX11, "doOne", "(II)V"⟩
abbrev cX11_doAll : ByteArray := prog_13_method_130_code
def yX11_doAll : MethodName := ⟨RX11, "doAll", "(III)V"⟩
abbrev cX11_walks : ByteArray := prog_13_method_131_code
def yX11_walks : MethodName := ⟨RX11, "walks", "(II)V"⟩
abbrev cX11_isNoWalk : ByteArray := prog_13_method_132_code
def yX11_isNoWalk : MethodName := ⟨RX11, "isNoWalk", "()Z"⟩
abbrev cX11_walk : ByteArray := prog_13_method_133_code
def yX11_walk : MethodName := ⟨RX11, "walk", "(II)I"⟩
abbrev cX11_walked : ByteArray := prog_13_method_134_code
def yX11_walked : MethodName := ⟨RX11, "walked", "(I)I"⟩
abbrev cX11_isAllTrue : ByteArray := prog_13_method_135_code
def yX11_isAllTrue : MethodName := ⟨RX11, "isAllTrue", "()Z"⟩
abbrev cX11_odds : ByteArray := prog_13_method_136_code
def yX11_odds : MethodName := ⟨RX11, "odds", "(III)Z"⟩
abbrev cX11_copy : ByteArray := prog_13_method_137_code
def yX11_copy : MethodName := ⟨RX11, "copy", "(II)V"⟩
abbrev cX11_mark : ByteArray := prog_13_method_138_code
def yX11_mark : MethodName := ⟨RX11, "mark", "()I"⟩
abbrev cX11_back : ByteArray := prog_13_method_139_code
def yX11_back : MethodName := ⟨RX11, "back", "()I"⟩
def RJx145de : String := "java/io/Serializable"
def RJx9f9b0 : String := "java/lang/CharSequence"
def RJxb160c : String := "java/lang/Comparable"
def RJ9 : String := "java/lang/Math"
abbrev cJ9_abs_067f4 : ByteArray := prog_14_method_61_code
def yJ9_abs_067f4 : MethodName := ⟨RJ9, "abs", "(J)J"⟩
abbrev cJ9_max_7cf53 : ByteArray := prog_14_method_65_code
def yJ9_max_7cf53 : MethodName := ⟨RJ9, "max", "(II)I"⟩
abbrev cJ9_max_f86c9 : ByteArray := prog_14_method_66_code
def yJ9_max_f86c9 : MethodName := ⟨RJ9, "max", "(JJ)J"⟩
abbrev cJ9_min_7cf53 : ByteArray := prog_14_method_69_code
def yJ9_min_7cf53 : MethodName := ⟨RJ9, "min", "(II)I"⟩
abbrev cJ9_min_f86c9 : ByteArray := prog_14_method_70_code
def yJ9_min_f86c9 : MethodName := ⟨RJ9, "min", "(JJ)J"⟩
def RJ0 : String := "java/lang/String"
abbrev cJ0_length_8abf5 : ByteArray := prog_15_method_54_code
def yJ0_length_8abf5 : MethodName := ⟨RJ0, "length", "()I"⟩
abbrev cJ0_charAt_5068e : ByteArray := prog_15_method_56_code
def yJ0_charAt_5068e : MethodName := ⟨RJ0, "charAt", "(I)C"⟩
abbrev cJ0_coder_7d493 : ByteArray := prog_15_method_152_code
def yJ0_coder_7d493 : MethodName := ⟨RJ0, "coder", "()B"⟩
abbrev cJ0_isLatin1_aae02 : ByteArray := prog_15_method_154_code
def yJ0_isLatin1_aae02 : MethodName := ⟨RJ0, "isLatin1", "()Z"⟩
abbrev cJ0_checkIndex_df160 : ByteArray := prog_15_method_155_code
def yJ0_checkIndex_df160 : MethodName := ⟨RJ0, "checkIndex", "(II)V"⟩
def RJ1 : String := "java/lang/StringLatin1"
abbrev cJ1_charAt_3b067 : ByteArray := prog_16_method_2_code
def yJ1_charAt_3b067 : MethodName := ⟨RJ1, "charAt", "([BI)C"⟩
def RJ2 : String := "java/lang/StringUTF16"
abbrev cJ2_getChar_3b067 : ByteArray := prog_17_method_5_code
def yJ2_getChar_3b067 : MethodName := ⟨RJ2, "getChar", "([BI)C"⟩
abbrev cJ2_length_9d52b : ByteArray := prog_17_method_6_code
def yJ2_length_9d52b : MethodName := ⟨RJ2, "length", "([B)I"⟩
abbrev cJ2_charAt_3b067 : ByteArray := prog_17_method_83_code
def yJ2_charAt_3b067 : MethodName := ⟨RJ2, "charAt", "([BI)C"⟩
abbrev cJ2_checkIndex_2214a : ByteArray := prog_17_method_91_code
def yJ2_checkIndex_2214a : MethodName := ⟨RJ2, "checkIndex", "(I[B)V"⟩
def RJ10 : String := "java/lang/System"
def RJxfd54e : String := "java/lang/constant/Constable"
def RJx3cf43 : String := "java/lang/constant/ConstantDesc"
def RJ7 : String := "java/util/Arrays"
abbrev cJ7_fill_d0a16 : ByteArray := prog_19_method_101_code
def yJ7_fill_d0a16 : MethodName := ⟨RJ7, "fill", "([JJ)V"⟩
abbrev cJ7_fill_53178 : ByteArray := prog_19_method_103_code
def yJ7_fill_53178 : MethodName := ⟨RJ7, "fill", "([II)V"⟩
def RJ3 : String := "jdk/internal/util/Preconditions"
abbrev cJ3_checkIndex_8e157 : ByteArray := prog_20_method_11_code
def yJ3_checkIndex_8e157 : MethodName := ⟨RJ3, "checkIndex", "(IILjava/util/function/BiFunction;)I"⟩
def RL : String := "HollowWallLaw"
abbrev cL_law : ByteArray := code
def yL_law : MethodName := ⟨RL, "law", "([I)Z"⟩
abbrev vwCl : List vw_C := [(RX0, TX0, 14), (RX1, TX1, 6), (RX2, TX2, 3), (RX3, TX3, 5), (RX4, TX4, 6), (RX5, TX5, 10), (RX6, TX6, 4), (RX7, TX7, 12), (RX8, TX8, 19), (RX9, TX9, 4), (RX10, TX10, 19), (RX11, TX11, 53)]
